theorem dX12_feed_0 : decode cX12_feed 0 = .ok (.aload_n 0, 1) := by decide +kernel
theorem dX12_feed_1 : decode cX12_feed 1 = .ok (.iconst 0, 1) := by decide +kernel
theorem dX12_feed_2 : decode cX12_feed 2 = .ok (.putfield 1, 3) := by decide +kernel
theorem dX12_feed_5 : decode cX12_feed 5 = .ok (.aload_n 0, 1) := by decide +kernel
theorem dX12_feed_6 : decode cX12_feed 6 = .ok (.getfield 7, 3) := by decide +kernel
theorem dX12_feed_9 : decode cX12_feed 9 = .ok (.bipush 20, 2) := by decide +kernel
theorem dX12_feed_11 : decode cX12_feed 11 = .ok (.iadd, 1) := by decide +kernel
theorem dX12_feed_12 : decode cX12_feed 12 = .ok (.sipush 940, 3) := by decide +kernel
theorem dX12_feed_15 : decode cX12_feed 15 = .ok (.if_icmp .le 5, 3) := by decide +kernel
theorem dX12_feed_18 : decode cX12_feed 18 = .ok (.iconst (-1), 1) := by decide +kernel
theorem dX12_feed_19 : decode cX12_feed 19 = .ok (.ireturn, 1) := by decide +kernel
theorem dX12_feed_20 : decode cX12_feed 20 = .ok (.aload_n 0, 1) := by decide +kernel
theorem dX12_feed_21 : decode cX12_feed 21 = .ok (.iload_n 1, 1) := by decide +kernel
theorem dX12_feed_22 : decode cX12_feed 22 = .ok (.invokevirtual 10, 3) := by decide +kernel
theorem dX12_feed_25 : decode cX12_feed 25 = .ok (.aload_n 0, 1) := by decide +kernel
theorem dX12_feed_26 : decode cX12_feed 26 = .ok (.iload_n 2, 1) := by decide +kernel
theorem dX12_feed_27 : decode cX12_feed 27 = .ok (.invokevirtual 10, 3) := by decide +kernel
theorem dX12_feed_30 : decode cX12_feed 30 = .ok (.aload_n 0, 1) := by decide +kernel
theorem dX12_feed_31 : decode cX12_feed 31 = .ok (.iload_n 3, 1) := by decide +kernel
theorem dX12_feed_32 : decode cX12_feed 32 = .ok (.invokevirtual 10, 3) := by decide +kernel
theorem dX12_feed_35 : decode cX12_feed 35 = .ok (.aload_n 0, 1) := by decide +kernel
theorem dX12_feed_36 : decode cX12_feed 36 = .ok (.iload 4, 2) := by decide +kernel
theorem dX12_feed_38 : decode cX12_feed 38 = .ok (.invokevirtual 10, 3) := by decide +kernel
theorem dX12_feed_41 : decode cX12_feed 41 = .ok (.aload_n 0, 1) := by decide +kernel
theorem dX12_feed_42 : decode cX12_feed 42 = .ok (.iload 5, 2) := by decide +kernel
theorem dX12_feed_44 : decode cX12_feed 44 = .ok (.invokevirtual 10, 3) := by decide +kernel
theorem dX12_feed_47 : decode cX12_feed 47 = .ok (.aload_n 0, 1) := by decide +kernel
theorem dX12_feed_48 : decode cX12_feed 48 = .ok (.getfield 7, 3) := by decide +kernel
theorem dX12_feed_51 : decode cX12_feed 51 = .ok (.ireturn, 1) := by decide +kernel
theorem dX12_four_0 : decode cX12_four 0 = .ok (.bipush 24, 2) := by decide +kernel
theorem dX12_four_2 : decode cX12_four 2 = .ok (.istore_n 2, 1) := by decide +kernel
theorem dX12_four_3 : decode cX12_four 3 = .ok (.iload_n 2, 1) := by decide +kernel
theorem dX12_four_4 : decode cX12_four 4 = .ok (.ifCond .lt 32, 3) := by decide +kernel
theorem dX12_four_7 : decode cX12_four 7 = .ok (.aload_n 0, 1) := by decide +kernel
theorem dX12_four_8 : decode cX12_four 8 = .ok (.getfield 14, 3) := by decide +kernel
theorem dX12_four_11 : decode cX12_four 11 = .ok (.aload_n 0, 1) := by decide +kernel
theorem dX12_four_12 : decode cX12_four 12 = .ok (.getfield 7, 3) := by decide +kernel
theorem dX12_four_15 : decode cX12_four 15 = .ok (.iload_n 1, 1) := by decide +kernel
theorem dX12_four_16 : decode cX12_four 16 = .ok (.iload_n 2, 1) := by decide +kernel
theorem dX12_four_17 : decode cX12_four 17 = .ok (.ishr, 1) := by decide +kernel
theorem dX12_four_18 : decode cX12_four 18 = .ok (.i2b, 1) := by decide +kernel
theorem dX12_four_19 : decode cX12_four 19 = .ok (.bastore, 1) := by decide +kernel
theorem dX12_four_20 : decode cX12_four 20 = .ok (.aload_n 0, 1) := by decide +kernel
theorem dX12_four_21 : decode cX12_four 21 = .ok (.dup, 1) := by decide +kernel
theorem dX12_four_22 : decode cX12_four 22 = .ok (.getfield 7, 3) := by decide +kernel
theorem dX12_four_25 : decode cX12_four 25 = .ok (.iconst 1, 1) := by decide +kernel
theorem dX12_four_26 : decode cX12_four 26 = .ok (.iadd, 1) := by decide +kernel
theorem dX12_four_27 : decode cX12_four 27 = .ok (.putfield 7, 3) := by decide +kernel
theorem dX12_four_30 : decode cX12_four 30 = .ok (.iinc 2 (-8), 3) := by decide +kernel
theorem dX12_four_33 : decode cX12_four 33 = .ok (.goto (-30), 3) := by decide +kernel
theorem dX12_four_36 : decode cX12_four 36 = .ok (.return_, 1) := by decide +kernel
theorem dX12_end_0 : decode cX12_end 0 = .ok (.aload_n 0, 1) := by decide +kernel
theorem dX12_end_1 : decode cX12_end 1 = .ok (.iconst 0, 1) := by decide +kernel
theorem dX12_end_2 : decode cX12_end 2 = .ok (.putfield 1, 3) := by decide +kernel
theorem dX12_end_5 : decode cX12_end 5 = .ok (.iload_n 1, 1) := by decide +kernel
theorem dX12_end_6 : decode cX12_end 6 = .ok (.ifCond .lt 11, 3) := by decide +kernel
theorem dX12_end_9 : decode cX12_end 9 = .ok (.iload_n 1, 1) := by decide +kernel
theorem dX12_end_10 : decode cX12_end 10 = .ok (.aload_n 0, 1) := by decide +kernel
theorem dX12_end_11 : decode cX12_end 11 = .ok (.getfield 7, 3) := by decide +kernel
theorem dX12_end_14 : decode cX12_end 14 = .ok (.if_icmp .le 5, 3) := by decide +kernel
theorem dX12_end_17 : decode cX12_end 17 = .ok (.iconst 0, 1) := by decide +kernel
theorem dX12_end_18 : decode cX12_end 18 = .ok (.ireturn, 1) := by decide +kernel
theorem dX12_end_19 : decode cX12_end 19 = .ok (.aload_n 0, 1) := by decide +kernel
theorem dX12_end_20 : decode cX12_end 20 = .ok (.iload_n 1, 1) := by decide +kernel
theorem dX12_end_21 : decode cX12_end 21 = .ok (.putfield 7, 3) := by decide +kernel
theorem dX12_end_24 : decode cX12_end 24 = .ok (.iconst 1, 1) := by decide +kernel
theorem dX12_end_25 : decode cX12_end 25 = .ok (.ireturn, 1) := by decide +kernel
theorem dX12_taken_0 : decode cX12_taken 0 = .ok (.aload_n 0, 1) := by decide +kernel
theorem dX12_taken_1 : decode cX12_taken 1 = .ok (.aload_n 0, 1) := by decide +kernel
theorem dX12_taken_2 : decode cX12_taken 2 = .ok (.getfield 7, 3) := by decide +kernel
theorem dX12_taken_5 : decode cX12_taken 5 = .ok (.putfield 18, 3) := by decide +kernel
theorem dX12_taken_8 : decode cX12_taken 8 = .ok (.aload_n 0, 1) := by decide +kernel
theorem dX12_taken_9 : decode cX12_taken 9 = .ok (.iconst 0, 1) := by decide +kernel
theorem dX12_taken_10 : decode cX12_taken 10 = .ok (.putfield 7, 3) := by decide +kernel
theorem dX12_taken_13 : decode cX12_taken 13 = .ok (.aload_n 0, 1) := by decide +kernel
theorem dX12_taken_14 : decode cX12_taken 14 = .ok (.iconst 0, 1) := by decide +kernel
theorem dX12_taken_15 : decode cX12_taken 15 = .ok (.putfield 21, 3) := by decide +kernel
theorem dX12_taken_18 : decode cX12_taken 18 = .ok (.aload_n 0, 1) := by decide +kernel
theorem dX12_taken_19 : decode cX12_taken 19 = .ok (.iload_n 1, 1) := by decide +kernel
theorem dX12_taken_20 : decode cX12_taken 20 = .ok (.putfield 24, 3) := by decide +kernel
theorem dX12_taken_23 : decode cX12_taken 23 = .ok (.return_, 1) := by decide +kernel
theorem dX12_octet_0 : decode cX12_octet 0 = .ok (.aload_n 0, 1) := by decide +kernel
theorem dX12_octet_1 : decode cX12_octet 1 = .ok (.getfield 14, 3) := by decide +kernel
theorem dX12_octet_4 : decode cX12_octet 4 = .ok (.iload_n 1, 1) := by decide +kernel
theorem dX12_octet_5 : decode cX12_octet 5 = .ok (.baload, 1) := by decide +kernel
theorem dX12_octet_6 : decode cX12_octet 6 = .ok (.sipush 255, 3) := by decide +kernel
theorem dX12_octet_9 : decode cX12_octet 9 = .ok (.iand, 1) := by decide +kernel
theorem dX12_octet_10 : decode cX12_octet 10 = .ok (.ireturn, 1) := by decide +kernel
theorem dX12_clears_0 : decode cX12_clears 0 = .ok (.iconst 0, 1) := by decide +kernel
theorem dX12_clears_1 : decode cX12_clears 1 = .ok (.istore_n 1, 1) := by decide +kernel
theorem dX12_clears_2 : decode cX12_clears 2 = .ok (.iload_n 1, 1) := by decide +kernel
theorem dX12_clears_3 : decode cX12_clears 3 = .ok (.bipush 67, 2) := by decide +kernel
theorem dX12_clears_5 : decode cX12_clears 5 = .ok (.if_icmp .ge 16, 3) := by decide +kernel
theorem dX12_clears_8 : decode cX12_clears 8 = .ok (.aload_n 0, 1) := by decide +kernel
theorem dX12_clears_9 : decode cX12_clears 9 = .ok (.getfield 37, 3) := by decide +kernel
theorem dX12_clears_12 : decode cX12_clears 12 = .ok (.iload_n 1, 1) := by decide +kernel
theorem dX12_clears_13 : decode cX12_clears 13 = .ok (.iconst 0, 1) := by decide +kernel
theorem dX12_clears_14 : decode cX12_clears 14 = .ok (.iastore, 1) := by decide +kernel
theorem dX12_clears_15 : decode cX12_clears 15 = .ok (.iinc 1 1, 3) := by decide +kernel
theorem dX12_clears_18 : decode cX12_clears 18 = .ok (.goto (-16), 3) := by decide +kernel
theorem dX12_clears_21 : decode cX12_clears 21 = .ok (.aload_n 0, 1) := by decide +kernel
theorem dX12_clears_22 : decode cX12_clears 22 = .ok (.getfield 37, 3) := by decide +kernel
theorem dX12_clears_25 : decode cX12_clears 25 = .ok (.iconst 4, 1) := by decide +kernel
theorem dX12_clears_26 : decode cX12_clears 26 = .ok (.iconst 2, 1) := by decide +kernel
theorem dX12_clears_27 : decode cX12_clears 27 = .ok (.iastore, 1) := by decide +kernel
theorem dX12_clears_28 : decode cX12_clears 28 = .ok (.return_, 1) := by decide +kernel
theorem dX12_peek_0 : decode cX12_peek 0 = .ok (.aload_n 0, 1) := by decide +kernel
theorem dX12_peek_1 : decode cX12_peek 1 = .ok (.getfield 21, 3) := by decide +kernel
theorem dX12_peek_4 : decode cX12_peek 4 = .ok (.aload_n 0, 1) := by decide +kernel
theorem dX12_peek_5 : decode cX12_peek 5 = .ok (.getfield 18, 3) := by decide +kernel
theorem dX12_peek_8 : decode cX12_peek 8 = .ok (.if_icmp .ge 19, 3) := by decide +kernel
theorem dX12_peek_11 : decode cX12_peek 11 = .ok (.aload_n 0, 1) := by decide +kernel
theorem dX12_peek_12 : decode cX12_peek 12 = .ok (.getfield 14, 3) := by decide +kernel
theorem dX12_peek_15 : decode cX12_peek 15 = .ok (.aload_n 0, 1) := by decide +kernel
theorem dX12_peek_16 : decode cX12_peek 16 = .ok (.getfield 21, 3) := by decide +kernel
theorem dX12_peek_19 : decode cX12_peek 19 = .ok (.baload, 1) := by decide +kernel
theorem dX12_peek_20 : decode cX12_peek 20 = .ok (.sipush 255, 3) := by decide +kernel
theorem dX12_peek_23 : decode cX12_peek 23 = .ok (.iand, 1) := by decide +kernel
theorem dX12_peek_24 : decode cX12_peek 24 = .ok (.goto 4, 3) := by decide +kernel
theorem dX12_peek_27 : decode cX12_peek 27 = .ok (.iconst (-1), 1) := by decide +kernel
theorem dX12_peek_28 : decode cX12_peek 28 = .ok (.ireturn, 1) := by decide +kernel
set_option maxRecDepth 20000 in
theorem ggX12_feed_X12_four : GoodIn wsX12_feed wsX12_four := goodIn_r _ [7, 8, 2, 9, 10, 11, 12, 13, 14, 15, 16, 17, 18, 19, 20, 21, 22, 23, 24, 25, 26, 27, 28, 29, 30, 31, 32, 33, 34, 35, 36, 37, 38, 39, 40, 41, 42, 43, 44, 45, 46, 47, 48, 49, 50, 51, 52, 53, 54, 55, 56, 57, 58, 59, 60, 61, 62] rfl (by decide +kernel)
set_option maxRecDepth 20000 in
theorem gX12_feed_X12_four : GoodIn wsX12_feed (wsV RX12 10 RX12 yX12_four wsX12_four) := goodIn_app (a := [.methodLink RX12 10 yX12_four, .instanceMethod yX12_four, .selects RX12 yX12_four yX12_four, .initialized RX12]) (g_c9 (List.mem_cons_of_mem _ (List.mem_append_left _ (List.mem_of_getElem? (i := 2) rfl))) rfl (g_c9 (List.mem_cons_of_mem _ (List.mem_append_left _ (List.mem_of_getElem? (i := 3) rfl))) rfl (g_c9 (List.mem_cons_of_mem _ (List.mem_append_left _ (List.mem_of_getElem? (i := 4) rfl))) rfl (g_c9 (List.mem_cons_of_mem _ (List.mem_append_left _ (List.mem_of_getElem? (i := 5) rfl))) rfl g_n9)))) ggX12_feed_X12_four
def rgH : List (Nat × Nat × Int × Int) := [(0, 0, 0, 5), (1, 1, 0, 7), (2, 2, 0, 14), (3, 3, 0, 6), (4, 4, 0, 5), (5, 11, 0, 4), (13, 26, 0, 6), (27, 40, 0, 199), (41, 54, 0, 20), (55, 60, 0, 4), (61, 66, 0, 12)]
def rgB : List (Nat × Nat × Int × Int) := [(2, 8, 0, 4), (16, 21, 0, 4), (22, 27, 0, 7), (28, 33, 0, 12)]
def rgS : List (Nat × Nat × Int × Int) := [(0, 0, 0, 5), (1, 1, 0, 7), (2, 2, 0, 14), (3, 3, 0, 6), (4, 4, 0, 5), (5, 11, 0, 4), (13, 26, 0, 6), (27, 40, 0, 199), (41, 54, 0, 20), (55, 60, 0, 4), (61, 66, 0, 12), (69, 75, 0, 4), (83, 88, 0, 4), (89, 94, 0, 7), (95, 100, 0, 12), (102, 102, 0, 45)]
def rgU : List (Nat × Nat × Int × Int) := [(2, 8, 0, 4), (16, 21, 0, 4), (22, 27, 0, 7), (28, 33, 0, 12), (37, 43, 0, 4), (51, 56, 0, 4), (57, 62, 0, 7), (63, 68, 0, 12), (72, 78, 0, 4), (86, 91, 0, 4), (92, 97, 0, 7), (98, 103, 0, 12), (107, 113, 0, 4), (121, 126, 0, 4), (127, 132, 0, 7), (133, 138, 0, 12), (142, 148, 0, 4), (156, 161, 0, 4), (162, 167, 0, 7), (168, 173, 0, 12), (177, 183, 0, 4), (191, 196, 0, 4), (197, 202, 0, 7), (203, 208, 0, 12), (212, 218, 0, 4), (226, 231, 0, 4), (232, 237, 0, 7), (238, 243, 0, 12), (247, 253, 0, 4), (261, 266, 0, 4), (267, 272, 0, 7), (273, 278, 0, 12)]
def rgI : List (Nat × Nat × Int × Int) := [(0, 0, 0, 5), (1, 1, 0, 7), (2, 2, 0, 14), (3, 3, 0, 6), (4, 4, 0, 5), (5, 11, 0, 4), (13, 26, 0, 6), (27, 40, 0, 199), (41, 54, 0, 20), (55, 60, 0, 4), (61, 66, 0, 12), (69, 75, 0, 4), (83, 88, 0, 4), (89, 94, 0, 7), (95, 100, 0, 12), (102, 102, 0, 45), (283, 283, 0, 5), (284, 284, 0, 7), (285, 285, 0, 14), (286, 286, 0, 6), (287, 287, 0, 5), (288, 294, 0, 4), (296, 309, 0, 6), (310, 323, 0, 199), (324, 337, 0, 20), (338, 343, 0, 4), (344, 349, 0, 12), (352, 358, 0, 4), (366, 371, 0, 4), (372, 377, 0, 7), (378, 383, 0, 12), (385, 385, 0, 45)]
/-! what holds between the numbers of the reference's rows -/
/-- where a person or an umbrella is, a place is -/
def z_pl (f : Nat → Int32) : Prop := (f 1 ≠ 0 ∨ f 3 ≠ 0) → f 0 ≠ 0
/-- a step of a sentence's code at depth d -/
def z_st (d : Nat) (w n : Int32) : Option Nat := if w = 20 then (if 1 ≤ d then some d else none) else if w = 21 ∨ w = 22 then (if 2 ≤ d then some (d - 1) else none) else if w = 4 then (if 0 ≤ n.toInt ∧ n.toInt ≤ 5 then some (d + 1) else none) else some (d + 1)
def z_dp (o : Nat) (f : Nat → Int32) : Nat → Option Nat
  | 0 => some 0
  | n + 1 => (z_dp o f n).bind (fun d => z_st d (f (o + 3 * n)) (f (o + 3 * n + 2)))
def z_wf (f : Nat → Int32) : Prop := ∃ d, z_dp 103 f (f 102).toNatClampNeg = some d
def z_sr (f : Nat → Int32) : Prop := z_ar rgS f ∧ z_pl f ∧ z_wf f
def z_hr (f : Nat → Int32) : Prop := z_ar rgH f ∧ z_pl f
def z_ir (f : Nat → Int32) : Prop := z_ar rgI f ∧ (z_pl f ∧ z_wf f) ∧ z_pl (fun j => f (283 + j)) ∧ z_wf (fun j => f (283 + j))
theorem z_dpc {o o' : Nat} {f g : Nat → Int32} : ∀ {n : Nat}, (∀ j, j < 3 * n → f (o + j) = g (o' + j)) → z_dp o f n = z_dp o' g n
  | 0, _ => rfl
  | n + 1, h => by
    rw [z_dp, z_dp, z_dpc (fun j hj => h j (by omega))]
    have e1 := h (3 * n) (by omega)
    have e2 := h (3 * n + 2) (by omega)
    rw [← Nat.add_assoc, ← Nat.add_assoc] at e2
    rw [e1, e2]
theorem z_n0 {a b : Int} {i : Int32} (hi : z_in a b i) (ha : decide (0 ≤ a) = true) : (i.toNatClampNeg : Int) = i.toInt := by
  have h := hi.1
  have := of_decide_eq_true ha
  rw [z_tnc]
  omega
theorem z_c45 {f : Nat → Int32} (h : z_ar rgS f) : (f 102).toNatClampNeg ≤ 45 := by
  have h := h (102, 102, 0, 45) (by decide) 102 (by decide) (by decide)
  have h2 : (f 102).toInt ≤ 45 := h.2
  rw [z_tnc]
  omega
theorem z_updN {f : Nat → Int32} {i j : Nat} {x : Int32} (h : j ≠ i) : upd f i x j = f j := by simp [upd, h]
theorem z_updE {f : Nat → Int32} {i j : Nat} {x : Int32} (h : j = i) : upd f i x j = x := by simp [upd, h]
theorem z_wfu {f g : Nat → Int32} (h : z_wf f) (hc : (f 102).toNatClampNeg ≤ 45) (e : ∀ j, 102 ≤ j → j < 238 → g j = f j) : z_wf g := by
  obtain ⟨d, hd⟩ := h
  refine ⟨d, ?_⟩
  rw [e 102 (by decide) (by decide), z_dpc (o' := 103) (g := f) (fun j hj => e (103 + j) (by omega) (by omega))]
  exact hd
theorem z_srw {f : Nat → Int32} {i x : Int32} {a b : Int} (h : z_sr f) (h2 : z_ar rgS (upd f i.toNatClampNeg x)) (hi : z_in a b i) (k : decide (67 ≤ a ∧ b ≤ 101) = true) : z_sr (upd f i.toNatClampNeg x) := by
  obtain ⟨k1, k2⟩ := of_decide_eq_true k
  have q1 := hi.1
  have q2 := hi.2
  have e : i.toNatClampNeg = i.toInt.toNat := z_tnc
  refine ⟨h2, ?_, z_wfu h.2.2 (z_c45 h.1) (fun j h1 h2 => z_updN (by omega))⟩
  unfold z_pl
  rw [z_updN (by omega), z_updN (by omega), z_updN (by omega)]
  exact h.2.1
theorem z_hrw {f : Nat → Int32} {i x : Int32} {a b : Int} (h : z_hr f) (h2 : z_ar rgH (upd f i.toNatClampNeg x)) (hi : z_in a b i) (k : decide (4 ≤ a ∧ b ≤ 66) = true) : z_hr (upd f i.toNatClampNeg x) := by
  obtain ⟨k1, k2⟩ := of_decide_eq_true k
  have q1 := hi.1
  have q2 := hi.2
  have e : i.toNatClampNeg = i.toInt.toNat := z_tnc
  refine ⟨h2, ?_⟩
  unfold z_pl
  rw [z_updN (by omega), z_updN (by omega), z_updN (by omega)]
  exact h.2
theorem z_hr0 {f : Nat → Int32} {x : Int32} {a b : Int} (h2 : z_ar rgH (upd f (0 : Int32).toNatClampNeg x)) (hx : z_in a b x) (k : decide (1 ≤ a) = true) : z_hr (upd f (0 : Int32).toNatClampNeg x) := by
  refine ⟨h2, fun _ => ?_⟩
  have e0 : (0 : Int32).toNatClampNeg = 0 := rfl
  rw [e0, z_updE rfl]
  intro e
  have q := hx.1
  have k := of_decide_eq_true k
  rw [e] at q
  have e0 : (0 : Int32).toInt = 0 := rfl
  omega
theorem z_hr2 {f : Nat → Int32} {x : Int32} (h : z_hr f) (h2 : z_ar rgH (upd f (2 : Int32).toNatClampNeg x)) : z_hr (upd f (2 : Int32).toNatClampNeg x) := by
  refine ⟨h2, ?_⟩
  unfold z_pl
  have e : (2 : Int32).toNatClampNeg = 2 := rfl
  rw [e, z_updN (by decide), z_updN (by decide), z_updN (by decide)]
  exact h.2
theorem z_hr1 {f : Nat → Int32} {x : Int32} (h2 : z_ar rgH (upd f (1 : Int32).toNatClampNeg x)) (h0 : f 0 ≠ 0) : z_hr (upd f (1 : Int32).toNatClampNeg x) := ⟨h2, fun _ => by
  have e : (1 : Int32).toNatClampNeg = 1 := rfl
  rw [e, z_updN (by decide)]
  exact h0⟩
theorem z_hr3 {f : Nat → Int32} {x : Int32} (h2 : z_ar rgH (upd f (3 : Int32).toNatClampNeg x)) (h0 : f 0 ≠ 0) : z_hr (upd f (3 : Int32).toNatClampNeg x) := ⟨h2, fun _ => by
  have e : (3 : Int32).toNatClampNeg = 3 := rfl
  rw [e, z_updN (by decide)]
  exact h0⟩
/-- the first four are alike -/
def z_k4 (f g : Nat → Int32) : Prop := g 0 = f 0 ∧ g 1 = f 1 ∧ g 2 = f 2 ∧ g 3 = f 3
theorem z_k4r (f : Nat → Int32) : z_k4 f f := ⟨rfl, rfl, rfl, rfl⟩
theorem z_k4t {f g h : Nat → Int32} (a : z_k4 f g) (b : z_k4 g h) : z_k4 f h := ⟨b.1.trans a.1, b.2.1.trans a.2.1, b.2.2.1.trans a.2.2.1, b.2.2.2.trans a.2.2.2⟩
theorem z_k4u {f : Nat → Int32} {i x : Int32} {a b : Int} (hi : z_in a b i) (k : decide (4 ≤ a) = true) : z_k4 f (upd f i.toNatClampNeg x) := by
  have k := of_decide_eq_true k
  have q1 := hi.1
  have e : i.toNatClampNeg = i.toInt.toNat := z_tnc
  exact ⟨z_updN (by omega), z_updN (by omega), z_updN (by omega), z_updN (by omega)⟩
/-- places are there -/
def z_p0 (f : Nat → Int32) : Prop := f 0 ≠ 0
def z_q1 (f : Nat → Int32) : Prop := f 1 ≠ 0
def z_q3 (f : Nat → Int32) : Prop := f 3 ≠ 0
theorem z_nz0 {y : Int32} {a b : Int} (h : z_in a b y) (k : decide (1 ≤ a) = true) : y ≠ 0 := by
  intro e
  have q := h.1
  have k := of_decide_eq_true k
  rw [e] at q
  have e0 : (0 : Int32).toInt = 0 := rfl
  omega
theorem z_p0k {f g : Nat → Int32} (h : z_p0 f) (k : z_k4 f g) : z_p0 g := by
  unfold z_p0
  rw [k.1]
  exact h
theorem z_p0n {f : Nat → Int32} {y : Int32} {b : Int} (h : z_p0 f) (e : y = f 0) (hy : z_in 0 b y) : z_in 1 b y := by
  refine ⟨?_, hy.2⟩
  have h0 := hy.1
  by_cases q : y.toInt = 0
  · exact absurd (e.symm.trans (Int32.toInt_inj.mp (q.trans rfl))) h
  · omega
/-- how many lines a town's text can have had -/
def z_tot (f : Nat → Int32) (b : Int32) : Int := (f 0).toInt + (f 1).toInt + (f 2).toInt + (f 3).toInt + b.toInt
def z_inc (f : Nat → Int32) (b : Int32) (f' : Nat → Int32) (b' : Int32) : Prop := z_tot f b + 1 ≤ z_tot f' b'
theorem z_totle {f : Nat → Int32} {b : Int32} (h : z_hr f) (hb : z_in 0 1 b) : 0 ≤ z_tot f b ∧ z_tot f b ≤ 33 := by
  have h0 := h.1 (0, 0, 0, 5) (by decide) 0 (by decide) (by decide)
  have h1 := h.1 (1, 1, 0, 7) (by decide) 1 (by decide) (by decide)
  have h2 := h.1 (2, 2, 0, 14) (by decide) 2 (by decide) (by decide)
  have h3 := h.1 (3, 3, 0, 6) (by decide) 3 (by decide) (by decide)
  obtain ⟨a0, b0⟩ := h0
  obtain ⟨a1, b1⟩ := h1
  obtain ⟨a2, b2⟩ := h2
  obtain ⟨a3, b3⟩ := h3
  obtain ⟨a4, b4⟩ := hb
  unfold z_tot
  simp only at a0 b0 a1 b1 a2 b2 a3 b3
  constructor <;> omega
theorem z_incF {f f' : Nat → Int32} {b b' : Int32} (k : z_k4 f f') (hb : z_in 0 0 b) (hb' : z_in 1 1 b') : z_inc f b f' b' := by
  unfold z_inc z_tot
  rw [k.1, k.2.1, k.2.2.1, k.2.2.2]
  have := hb.2
  have := hb'.1
  omega
theorem z_incU {f g : Nat → Int32} {b j x y : Int32} (n : Nat) (hn : n < 4) (hj : j.toNatClampNeg = n) (k : z_k4 f g) (ty : x.toInt = y.toInt + 1) (ey : y = g n) : z_inc f b (upd g j.toNatClampNeg x) b := by
  unfold z_inc z_tot
  rw [hj, ← k.1, ← k.2.1, ← k.2.2.1, ← k.2.2.2]
  rw [ey] at ty
  rcases (by omega : n = 0 ∨ n = 1 ∨ n = 2 ∨ n = 3) with e | e | e | e <;> subst e
  · rw [z_updE rfl, z_updN (by decide), z_updN (by decide), z_updN (by decide)]; omega
  · rw [z_updN (by decide), z_updE rfl, z_updN (by decide), z_updN (by decide)]; omega
  · rw [z_updN (by decide), z_updN (by decide), z_updE rfl, z_updN (by decide)]; omega
  · rw [z_updN (by decide), z_updN (by decide), z_updN (by decide), z_updE rfl]; omega
/-- all 0 ahead of k -/
def z_zr (f : Nat → Int32) (k : Int32) : Prop := ∀ j, j < k.toNatClampNeg → f j = 0
theorem z_zr0 (f : Nat → Int32) : z_zr f 0 := fun j h => absurd h (Nat.not_lt_zero j)
theorem z_zrS {f : Nat → Int32} {k k' : Int32} {a b : Int} (h : z_zr f k) (hk : z_in a b k) (ha : decide (0 ≤ a) = true) (t : k'.toInt = k.toInt + 1) : z_zr (upd f k.toNatClampNeg 0) k' := by
  intro j hj
  have ha := of_decide_eq_true ha
  have q := hk.1
  rw [z_tnc] at hj
  by_cases e : j = k.toNatClampNeg
  · exact z_updE e
  · rw [z_updN e]
    refine h j ?_
    rw [z_tnc] at e ⊢
    omega
theorem z_zrE {f : Nat → Int32} {k : Int32} {b : Int} (h : z_zr f k) (h2 : z_ar rgH f) (hk : z_in 67 b k) : z_hr f := by
  have q := hk.1
  refine ⟨h2, fun e => ?_⟩
  have e1 := h 1 (by rw [z_tnc]; omega)
  have e3 := h 3 (by rw [z_tnc]; omega)
  rcases e with e | e
  · exact absurd e1 e
  · exact absurd e3 e
/-- s is h, and 0 behind it -/
def z_ct (f h : Nat → Int32) (k : Int32) : Prop := ∀ j, j < k.toNatClampNeg → f j = if j < 67 then h j else 0
theorem z_ct0 (f h : Nat → Int32) : z_ct f h 0 := fun j q => absurd q (Nat.not_lt_zero j)
theorem z_ctS {f h : Nat → Int32} {k k' x : Int32} {a b : Int} (c : z_ct f h k) (hk : z_in a b k) (ha : decide (0 ≤ a) = true) (t : k'.toInt = k.toInt + 1) (hx : x = if k.toNatClampNeg < 67 then h k.toNatClampNeg else 0) : z_ct (upd f k.toNatClampNeg x) h k' := by
  intro j hj
  have ha := of_decide_eq_true ha
  have q := hk.1
  rw [z_tnc] at hj
  by_cases e : j = k.toNatClampNeg
  · rw [z_updE e, hx, e]
  · rw [z_updN e]
    refine c j ?_
    rw [z_tnc] at e ⊢
    omega
theorem z_ctx {h : Nat → Int32} {k y : Int32} {a b : Int} (hk : z_in a b k) (ha : decide (0 ≤ a ∧ b < 67) = true) (ey : y = h k.toNatClampNeg) : y = if k.toNatClampNeg < 67 then h k.toNatClampNeg else 0 := by
  obtain ⟨ha, hb⟩ := of_decide_eq_true ha
  have q := hk.1
  have q2 := hk.2
  rw [if_pos (by rw [z_tnc]; omega)]
  exact ey
theorem z_cty {h : Nat → Int32} {k : Int32} {a b : Int} (hk : z_in a b k) (ha : decide (67 ≤ a) = true) : (0 : Int32) = if k.toNatClampNeg < 67 then h k.toNatClampNeg else 0 := by
  have ha := of_decide_eq_true ha
  have q := hk.1
  rw [if_neg (by rw [z_tnc]; omega)]
theorem z_ctE {f h : Nat → Int32} {k : Int32} {b : Int} (c : z_ct f h k) (hh : z_hr h) (h2 : z_ar rgS f) (hk : z_in 283 b k) : z_sr f := by
  have q := hk.1
  have e : ∀ j, j < 283 → f j = if j < 67 then h j else 0 := fun j hj => c j (by rw [z_tnc]; omega)
  refine ⟨h2, ?_, 0, ?_⟩
  · unfold z_pl
    rw [e 0 (by decide), e 1 (by decide), e 3 (by decide)]
    exact hh.2
  · rw [e 102 (by decide)]
    rfl
/-- f is the k-th part of g, and the other way round -/
def z_cq (f g : Nat → Int32) (k i : Int32) : Prop := ∀ j, j < i.toNatClampNeg → f j = g (283 * k.toNatClampNeg + j)
theorem z_cq0 (f g : Nat → Int32) (k : Int32) : z_cq f g k 0 := fun j q => absurd q (Nat.not_lt_zero j)
theorem z_cqS {f g : Nat → Int32} {k i i' x y : Int32} (c : z_cq f g k i) (hi : 0 ≤ i.toInt) (t : i'.toInt = i.toInt + 1) (hx : x = g y.toNatClampNeg) (hy : y.toNatClampNeg = 283 * k.toNatClampNeg + i.toNatClampNeg) : z_cq (upd f i.toNatClampNeg x) g k i' := by
  intro j hj
  rw [z_tnc] at hj
  by_cases e : j = i.toNatClampNeg
  · rw [z_updE e, hx, hy, e]
  · rw [z_updN e]
    refine c j ?_
    rw [z_tnc] at e ⊢
    omega
theorem z_irk {g : Nat → Int32} {k : Int32} (h : z_ir g) (hk : z_in 0 1 k) : z_pl (fun j => g (283 * k.toNatClampNeg + j)) ∧ z_wf (fun j => g (283 * k.toNatClampNeg + j)) := by
  have q1 := hk.1
  have q2 := hk.2
  rcases (by rw [z_tnc]; omega : k.toNatClampNeg = 0 ∨ k.toNatClampNeg = 1) with e | e <;> rw [e]
  · have e2 : (fun j => g (283 * 0 + j)) = g := by funext j; rw [Nat.mul_zero, Nat.zero_add]
    rw [e2]
    exact h.2.1
  · exact h.2.2
theorem z_cqE {f g : Nat → Int32} {k i : Int32} {b : Int} (c : z_cq f g k i) (hg : z_ir g) (hk : z_in 0 1 k) (h2 : z_ar rgS f) (hi : z_in 283 b i) : z_sr f := by
  have q := hi.1
  have e : ∀ j, j < 283 → f j = g (283 * k.toNatClampNeg + j) := fun j hj => c j (by rw [z_tnc]; omega)
  obtain ⟨g1, g2⟩ := z_irk hg hk
  refine ⟨h2, ?_, z_wfu (f := fun j => g (283 * k.toNatClampNeg + j)) g2 ?_ (fun j h1 h2 => e j (by omega))⟩
  · unfold z_pl
    rw [e 0 (by decide), e 1 (by decide), e 3 (by decide)]
    exact g1
  · show (g (283 * k.toNatClampNeg + 102)).toNatClampNeg ≤ 45
    rw [← e 102 (by decide)]
    exact z_c45 h2
/-- the k-th part of g is f up to i, the rest of g is g0 -/
def z_cp (g0 g f : Nat → Int32) (k i : Int32) : Prop := (∀ j, j < i.toNatClampNeg → g (283 * k.toNatClampNeg + j) = f j) ∧ ∀ j, (j < 283 * k.toNatClampNeg ∨ 283 * k.toNatClampNeg + 283 ≤ j) → g j = g0 j
theorem z_cp0 (g f : Nat → Int32) (k : Int32) : z_cp g g f k 0 := ⟨fun j q => absurd q (Nat.not_lt_zero j), fun _ _ => rfl⟩
theorem z_cpS {g0 g f : Nat → Int32} {k i i' x y : Int32} (c : z_cp g0 g f k i) (hi : 0 ≤ i.toInt ∧ i.toInt < 283) (t : i'.toInt = i.toInt + 1) (hx : x = f i.toNatClampNeg) (hy : y.toNatClampNeg = 283 * k.toNatClampNeg + i.toNatClampNeg) : z_cp g0 (upd g y.toNatClampNeg x) f k i' := by
  have hj' : i.toNatClampNeg = i.toInt.toNat := z_tnc
  refine ⟨fun j hj => ?_, fun j hj => ?_⟩
  · rw [z_tnc] at hj
    by_cases e : j = i.toNatClampNeg
    · rw [z_updE (by omega), hx, e]
    · rw [z_updN (by omega)]
      exact c.1 j (by omega)
  · rw [z_updN (by omega)]
    exact c.2 j hj
theorem z_cpE {g0 g f : Nat → Int32} {k i : Int32} {b : Int} (c : z_cp g0 g f k i) (h0 : z_ir g0) (hf : z_sr f) (hk : z_in 0 1 k) (h2 : z_ar rgI g) (hi : z_in 283 b i) : z_ir g := by
  have q := hi.1
  have q1 := hk.1
  have q2 := hk.2
  have e : ∀ j, j < 283 → g (283 * k.toNatClampNeg + j) = f j := fun j hj => c.1 j (by rw [z_tnc]; omega)
  have A : z_pl (fun j => g (283 * k.toNatClampNeg + j)) ∧ z_wf (fun j => g (283 * k.toNatClampNeg + j)) := by
    refine ⟨?_, z_wfu hf.2.2 (z_c45 hf.1) (fun j h1 h2 => e j (by omega))⟩
    unfold z_pl
    show (g (283 * k.toNatClampNeg + 1) ≠ 0 ∨ g (283 * k.toNatClampNeg + 3) ≠ 0) → g (283 * k.toNatClampNeg + 0) ≠ 0
    rw [e 0 (by decide), e 1 (by decide), e 3 (by decide)]
    exact hf.2.1
  rcases (by rw [z_tnc]; omega : k.toNatClampNeg = 0 ∨ k.toNatClampNeg = 1) with e1 | e1
  · have e2 : (fun j => g (283 * k.toNatClampNeg + j)) = g := by funext j; rw [e1, Nat.mul_zero, Nat.zero_add]
    rw [e2] at A
    have e3 : (fun j => g (283 + j)) = fun j => g0 (283 + j) := by funext j; exact c.2 (283 + j) (by omega)
    exact ⟨h2, A, by rw [e3]; exact h0.2.2⟩
  · have e2 : (fun j => g (283 * k.toNatClampNeg + j)) = fun j => g (283 + j) := by funext j; rw [e1]
    rw [e2] at A
    have e4 : ∀ j, j < 283 → g j = g0 j := fun j hj => c.2 j (by omega)
    refine ⟨h2, ⟨?_, z_wfu h0.2.1.2 ?_ (fun j h1 h2 => e4 j (by omega))⟩, A⟩
    · unfold z_pl
      rw [e4 0 (by decide), e4 1 (by decide), e4 3 (by decide)]
      exact h0.2.1.1
    · have h := h0.1 (102, 102, 0, 45) (by decide) 102 (by decide) (by decide)
      have h2 : (g0 102).toInt ≤ 45 := h.2
      rw [z_tnc]
      omega
theorem z_qq {f : Nat → Int32} {y y2 : Int32} {n : Nat} {a b : Int} (h : z_in a b y2) (ha : decide (0 ≤ a) = true) (t : y2.toInt = y.toInt + -1) (e : y = f n) : f n ≠ 0 := by
  intro q
  have ha := of_decide_eq_true ha
  have h1 := h.1
  rw [e, q] at t
  have e0 : (0 : Int32).toInt = 0 := rfl
  omega
/-- whether a number is 0 or 1 -/
def z_im (r k : Int32) : Prop := (r = 1 ∧ z_in 0 1 k) ∨ (r = 0 ∧ ¬ z_in 0 1 k)
theorem z_imR {r k : Int32} (h : z_im r k) (h0 : z_in 0 0 r) : z_im 0 k := by
  rcases h with ⟨e, -⟩ | ⟨-, h⟩
  · exact (z_kno h0 e rfl).elim
  · exact Or.inr ⟨rfl, h⟩
theorem z_imE {r r' k : Int32} (h : z_im r k) (h' : z_im r' k) : r = r' := by
  rcases h with ⟨e, h⟩ | ⟨e, h⟩ <;> rcases h' with ⟨e', h'⟩ | ⟨e', h'⟩
  · rw [e, e']
  · exact absurd h h'
  · exact absurd h' h
  · rw [e, e']
def z_hc5 (h : Nat → Int32) : Prop := h 0 = 0 ∧ h 1 = 0 ∧ h 2 = 0 ∧ h 3 = 0 ∧ h 4 = 2
theorem z_hc5I {h h' : Nat → Int32} {k : Int32} {b : Int} (hz : z_zr h k) (hk : z_in 67 b k) (eh : upd h (4 : Int32).toNatClampNeg 2 = h') : z_hc5 h' := by
  have eh : upd h 4 2 = h' := eh
  have k1 := hk.1
  have z : ∀ j : Nat, j < 5 → h j = 0 := fun j hj => hz j (by rw [z_tnc]; omega)
  exact ⟨(z_upB eh (by decide)).trans (z 0 (by decide)), (z_upB eh (by decide)).trans (z 1 (by decide)), (z_upB eh (by decide)).trans (z 2 (by decide)), (z_upB eh (by decide)).trans (z 3 (by decide)), z_upA eh⟩
theorem z_le90 {a b : Int32} (h : z_z0 a) (hb : z_in 0 940 b) : z_le9 a b := by
  have h : a = 0 := h
  have e0 : (0 : Int32).toInt = 0 := rfl
  have b0 := hb.1
  rw [h]
  exact Int32.le_iff_toInt_le.mpr (by omega)
theorem z_mls0 {nm : Nat → Int64} {o : Nat} {n : Int32} (e : n = 0) : z_mls nm o n = [] := by
  rw [e]
  rfl
theorem z_vn0 {nm : Nat → Int64} {o : Nat} {n : Int32} (e : n = 0) : z_vn nm o n := by
  intro k hk
  rw [e] at hk
  exact absurd hk (Nat.not_lt_zero k)
theorem z_vh0 {nm : Nat → Int64} {h : Nat → Int32} (h5 : z_hc5 h) : z_vh nm h := ⟨z_vn0 h5.1, z_vn0 h5.2.1, z_vn0 h5.2.2.2.1⟩
theorem z_h40 {h : Nat → Int32} (h5 : z_hc5 h) : z_far4 h := by
  unfold z_far4
  rw [h5.2.2.2.2]
  decide
theorem z_h4w {h h2 h' : Nat → Int32} {y : Int32} {j : Nat} (h4 : z_far4 h) (eh : upd h2 j y = h') (hj : decide (¬ 4 = j) = true) (k5 : z_k5 h h2) : z_far4 h' := z_h4u h4 k5 eh hj
def z_LM (f : Nat → Int32) (t m n a : Int32) (nm : Nat → Int64) (h : Nat → Int32) (b : Int32) : Prop := ∃ a0 : Int32, 0 ≤ a0.toInt ∧ z_Tx f t.toInt.toNat m.toInt.toNat 0 a0.toInt.toNat ∧ 0 ≤ n.toInt ∧ z_fLs f t m n.toInt.toNat z_S0 a0 (z_mtw nm h b) a
def z_nb (n : Int32) : Prop := z_in 0 33 n
def z_An (r : Int32) (f : Nat → Int32) (t : Int32) : Prop := (0 ≤ r.toInt ∧ ∃ S : z_TW, z_fT0 f t 900 (.inr (S, r.toInt.toNat))) ∨ (∃ F G : Int32, r = -1 - G ∧ z_fT0 f t 900 (.inl (F, G)))
theorem z_AnE {r r' t : Int32} {f : Nat → Int32} (h : z_An r f t) (h' : z_An r' f t) : r = r' := by
  rcases h with ⟨a, S, q⟩ | ⟨F, G, a, q⟩ <;> rcases h' with ⟨a', S', q'⟩ | ⟨F', G', a', q'⟩
  · have e : r.toInt.toNat = r'.toInt.toNat := congrArg Prod.snd (Sum.inr.inj (z_fT0E q q'))
    exact Int32.toInt_inj.mp (by omega)
  · exact absurd (z_fT0E q q') (by intro e; cases e)
  · exact absurd (z_fT0E q q') (by intro e; cases e)
  · have e : G = G' := congrArg Prod.snd (Sum.inl.inj (z_fT0E q q'))
    rw [a, a', e]
section
variable {f h h' : Nat → Int32} {nm nm' : Nat → Int64} {t m n n' a a1 a2 b b' k v bb r r1 r2 F1 G1 F G p t0 : Int32} {w : Int64}
theorem z_LM0 (hb : b = 0) (h5 : z_hc5 h) (hp : z_z0 p) (hx : z_TX f t m p a) (hm : z_mt f t m k a v w bb) : z_LM f t m 0 a nm h b := by
  have hp : p = 0 := hp
  subst hp
  obtain ⟨c0, c1, c2, c3, -⟩ := h5
  refine ⟨a, hm.1, hx, by decide, ?_⟩
  show z_mtw nm h b = z_S0 ∧ a = a
  refine ⟨?_, rfl⟩
  unfold z_mtw
  rw [z_mls0 c0, z_mls0 c1, z_mls0 c3, c2, if_pos hb]
  rfl
theorem z_RMF {j : Nat} (hl : z_RM j f t m a nm h b r1 a1 nm' h' b' F G) (e : r1 = 1) : z_z0 F := hl.elim (fun q => q.2.1) (fun q => by rw [e] at q; exact absurd q.1 (by decide))
theorem z_RM5R (hl : z_RM 5 f t m a nm h b r1 a1 nm' h' b' F G) (e : r1 = 1) : z_fLi f t m (z_mtw nm h b) a = .inr (z_mtw nm' h' b', a1) := hl.elim (fun q => q.2.2) (fun q => by rw [e] at q; exact absurd q.1 (by decide))
theorem z_RM5L (hl : z_RM 5 f t m a nm h b r1 a1 nm' h' b' F G) (e : r1 = 0) : z_fLi f t m (z_mtw nm h b) a = .inl (F, G) := hl.elim (fun q => by rw [e] at q; exact absurd q.1 (by decide)) (fun q => q.2)
theorem z_PsR (hs : z_Ps f t m a b r1 a2 F G) (e : r1 = 1) : z_fSg f t m b a = .inr a2 := hs.elim (fun q => q.2.2) (fun q => by rw [e] at q; exact absurd q.1 (by decide))
theorem z_PsL (hs : z_Ps f t m a b r1 a2 F G) (e : r1 = 0) : z_fSg f t m b a = .inl (F, G) := hs.elim (fun q => by rw [e] at q; exact absurd q.1 (by decide)) (fun q => q.2)
theorem z_LMS (hI : z_LM f t m n a nm h b) (hm : z_mt f t m k a v w bb) (hk : ¬ k = 0) (ht : z_in 0 940 t) (h9 : z_in 0 940 m) (hl : z_RM 5 f t m a nm h b r1 a1 nm' h' b' F1 G1) (e1 : r1 = 1) (hs : z_Ps f t m a1 59 r2 a2 F G) (e2 : r2 = 1) (tn : n'.toInt = n.toInt + 1) : z_LM f t m n' a2 nm' h' b' := by
  obtain ⟨a0, h0, h1, h2, h3⟩ := hI
  have en : n'.toInt.toNat = n.toInt.toNat + 1 := by omega
  refine ⟨a0, h0, h1, by omega, ?_⟩
  rw [en]
  exact ⟨z_mtw nm h b, a, h3, z_mt0n hm hk ht h9, z_fLnI (z_RM5R hl e1) (z_PsR hs e2)⟩
theorem z_LMb (hI : z_LM f t m n a nm h b) (b0 : z_in 0 5 (h 0)) (b1 : z_in 0 7 (h 1)) (b2 : z_in 0 14 (h 2)) (b3 : z_in 0 6 (h 3)) : z_nb n := by
  obtain ⟨a0, h0, h1, h2, h3⟩ := hI
  obtain ⟨e, -⟩ := z_fLsB _ (show z_ok9 z_S0 from ⟨by decide, by decide⟩) h3
  have s0 : z_tt9 z_S0 = 0 := by decide
  have x1 : ((z_mls nm 18 (h 0)).length : Int) ≤ 5 := by rw [z_mlsL]; have := b0.1; have := b0.2; omega
  have x2 : ((z_mls nm 23 (h 1)).length : Int) ≤ 7 := by rw [z_mlsL]; have := b1.1; have := b1.2; omega
  have x3 : ((z_mls nm 30 (h 3)).length : Int) ≤ 6 := by rw [z_mlsL]; have := b3.1; have := b3.2; omega
  have x4 := b2.2
  have x6 : ∀ y : Int32, (if y = 0 then (0 : Int) else 1) ≤ 1 := fun y => by split <;> decide
  have x5 := x6 (if b = 0 then 0 else h 4)
  have et : z_tt9 (z_mtw nm h b) = ((z_mls nm 18 (h 0)).length : Int) + (z_mls nm 23 (h 1)).length + (z_mls nm 30 (h 3)).length + (h 2).toInt + (if (if b = 0 then 0 else h 4) = 0 then 0 else 1) := rfl
  exact ⟨h2, by omega⟩
theorem z_AnM0 (hI : z_LM f t m n a nm h b) (hm : z_mt f t m k a v w bb) (hk : k = 0) (ht : z_in 0 940 t) (h9 : z_in 0 940 m) (q1 : z_sz t t0) (q2 : z_sz m 900) : z_An n f t0 := by
  have q1 : t = t0 := q1
  have q2 : m = 900 := q2
  subst q1 q2
  obtain ⟨a0, h0, h1, h2, h3⟩ := hI
  exact Or.inl ⟨h2, _, a0, h0, h1, n.toInt.toNat, _, a, h3, Or.inl ⟨z_mt0 hm hk ht h9, rfl⟩⟩
theorem z_AnM1 (hI : z_LM f t m n a nm h b) (hm : z_mt f t m k a v w bb) (hk : ¬ k = 0) (ht : z_in 0 940 t) (h9 : z_in 0 940 m) (q1 : z_sz t t0) (q2 : z_sz m 900) (hl : z_RM 5 f t m a nm h b r1 a1 nm' h' b' F G) (e1 : r1 = 0) (er : r = -1 - G) : z_An r f t0 := by
  have q1 : t = t0 := q1
  have q2 : m = 900 := q2
  subst q1 q2
  obtain ⟨a0, h0, h1, h2, h3⟩ := hI
  exact Or.inr ⟨F, G, er, a0, h0, h1, n.toInt.toNat, _, a, h3, Or.inr ⟨z_mt0n hm hk ht h9, (F, G), z_bdL (z_RM5L hl e1), rfl⟩⟩
theorem z_AnM2 (hI : z_LM f t m n a nm h b) (hm : z_mt f t m k a v w bb) (hk : ¬ k = 0) (ht : z_in 0 940 t) (h9 : z_in 0 940 m) (q1 : z_sz t t0) (q2 : z_sz m 900) (hl : z_RM 5 f t m a nm h b r1 a1 nm' h' b' F1 G1) (e1 : r1 = 1) (hs : z_Ps f t m a1 59 r2 a2 F G) (e2 : r2 = 0) (er : r = -1 - G) : z_An r f t0 := by
  have q1 : t = t0 := q1
  have q2 : m = 900 := q2
  subst q1 q2
  obtain ⟨a0, h0, h1, h2, h3⟩ := hI
  refine Or.inr ⟨F, G, er, a0, h0, h1, n.toInt.toNat, _, a, h3, Or.inr ⟨z_mt0n hm hk ht h9, (F, G), ?_, rfl⟩⟩
  unfold z_fLn
  rw [z_bdR (z_RM5R hl e1)]
  exact z_bdL (z_PsL hs e2)
end
section
variable {f : Nat → Int32} {t m r r' nl np nu ms fr F G : Int32} {cl cp cu : Nat → Int64}
theorem z_AnC0 (h : z_Rt f t m r cl nl cp np cu nu ms fr F G) (hn : ¬ r = -1) (q2 : z_sz m 900) : z_An r f t := by
  have q2 : m = 900 := q2
  subst q2
  rcases h with ⟨h0, -, fr0, -, q⟩ | ⟨e, -⟩
  · exact Or.inl ⟨h0, _, q⟩
  · exact absurd e hn
theorem z_AnC1 (h : z_Rt f t m r cl nl cp np cu nu ms fr F G) (hr : r = -1) (q2 : z_sz m 900) (er : r' = -1 - G) : z_An r' f t := by
  have q2 : m = 900 := q2
  subst q2
  rcases h with ⟨h0, -⟩ | ⟨-, q⟩
  · rw [hr] at h0
    exact absurd h0 (by decide)
  · exact Or.inr ⟨F, G, er, q⟩
end
def z_q5 (x0 x1 x2 x3 x4 a0 a1 a2 a3 a4 : Int32) : Prop := x0 = a0 ∧ x1 = a1 ∧ x2 = a2 ∧ x3 = a3 ∧ x4 = a4
theorem z_q5r {a0 a1 a2 a3 a4 : Int32} : z_q5 a0 a1 a2 a3 a4 a0 a1 a2 a3 a4 := ⟨rfl, rfl, rfl, rfl, rfl⟩
def z_Sc (S : z_TW) (x0 x1 x2 x3 x4 : Int32) : Prop := 0 ≤ x0.toInt ∧ 0 ≤ x1.toInt ∧ 0 ≤ x3.toInt ∧ x0.toInt = (S.1.length : Int) ∧ x1.toInt = (S.2.1.length : Int) ∧ x2 = S.2.2.2.1 ∧ x3.toInt = (S.2.2.1.length : Int) ∧ x4 = (if S.2.2.2.2 = 0 then 2 else S.2.2.2.2)
theorem z_ScE {S : z_TW} {x0 x1 x2 x3 x4 y0 y1 y2 y3 y4 : Int32} (h : z_Sc S x0 x1 x2 x3 x4) (h' : z_Sc S y0 y1 y2 y3 y4) : z_q5 x0 x1 x2 x3 x4 y0 y1 y2 y3 y4 := by
  obtain ⟨-, -, -, h0, h1, h2, h3, h4⟩ := h
  obtain ⟨-, -, -, g0, g1, g2, g3, g4⟩ := h'
  exact ⟨Int32.toInt_inj.mp (h0.trans g0.symm), Int32.toInt_inj.mp (h1.trans g1.symm), h2.trans g2.symm, Int32.toInt_inj.mp (h3.trans g3.symm), h4.trans g4.symm⟩
def z_Tc (f : Nat → Int32) (t x0 x1 x2 x3 x4 a0 a1 a2 a3 a4 : Int32) : Prop := (∃ (S : z_TW) (n : Nat), z_fT0 f t 900 (.inr (S, n)) ∧ z_Sc S x0 x1 x2 x3 x4) ∨ ((∃ e : Int32 × Int32, z_fT0 f t 900 (.inl e)) ∧ z_q5 x0 x1 x2 x3 x4 a0 a1 a2 a3 a4)
theorem z_TcE {f : Nat → Int32} {t x0 x1 x2 x3 x4 y0 y1 y2 y3 y4 a0 a1 a2 a3 a4 : Int32} (h : z_Tc f t x0 x1 x2 x3 x4 a0 a1 a2 a3 a4) (h' : z_Tc f t y0 y1 y2 y3 y4 a0 a1 a2 a3 a4) : z_q5 x0 x1 x2 x3 x4 y0 y1 y2 y3 y4 := by
  rcases h with ⟨S, n, q, s⟩ | ⟨⟨e, q⟩, s⟩ <;> rcases h' with ⟨S', n', q', s'⟩ | ⟨⟨e', q'⟩, s'⟩
  · have e := congrArg Prod.fst (Sum.inr.inj (z_fT0E q q'))
    have e : S = S' := e
    subst e
    exact z_ScE s s'
  · exact absurd (z_fT0E q q') (by intro e; cases e)
  · exact absurd (z_fT0E q q') (by intro e; cases e)
  · obtain ⟨h0, h1, h2, h3, h4⟩ := s
    obtain ⟨g0, g1, g2, g3, g4⟩ := s'
    exact ⟨h0.trans g0.symm, h1.trans g1.symm, h2.trans g2.symm, h3.trans g3.symm, h4.trans g4.symm⟩
section
variable {f : Nat → Int32} {t m r nl np nu ms fr F G x0 x1 x2 x3 x4 a0 a1 a2 a3 a4 : Int32} {cl cp cu : Nat → Int64}
theorem z_TcC0 (h : z_Rt f t m r cl nl cp np cu nu ms fr F G) (hn : ¬ r = -1) (q2 : z_sz m 900) (b0 : z_in 0 5 nl) (b1 : z_in 0 7 np) (b3 : z_in 0 6 nu) (e0 : z_sz x0 nl) (e1 : z_sz x1 np) (e2 : z_sz x2 ms) (e3 : z_sz x3 nu) (e4 : z_sz x4 fr) : z_Tc f t x0 x1 x2 x3 x4 a0 a1 a2 a3 a4 := by
  have q2 : m = 900 := q2
  have e0 : x0 = nl := e0
  have e1 : x1 = np := e1
  have e2 : x2 = ms := e2
  have e3 : x3 = nu := e3
  have e4 : x4 = fr := e4
  subst q2 e0 e1 e2 e3 e4
  have c0 := b0.1
  have c1 := b1.1
  have c3 := b3.1
  rcases h with ⟨-, -, fr0, e, q⟩ | ⟨e, -⟩
  · exact Or.inl ⟨_, _, q, c0, c1, c3, by rw [z_lsL]; omega, by rw [z_lsL]; omega, rfl, by rw [z_lsL]; omega, e⟩
  · exact absurd e hn
theorem z_TcC1 (h : z_Rt f t m r cl nl cp np cu nu ms fr F G) (hr : r = -1) (q2 : z_sz m 900) : z_Tc f t a0 a1 a2 a3 a4 a0 a1 a2 a3 a4 := by
  have q2 : m = 900 := q2
  subst q2
  rcases h with ⟨h0, -⟩ | ⟨-, q⟩
  · rw [hr] at h0
    exact absurd h0 (by decide)
  · exact Or.inr ⟨⟨_, q⟩, z_q5r⟩
end
def z_TcM (f : Nat → Int32) (t : Int32) (g g0 : Nat → Int32) : Prop := z_Tc f t (g 0) (g 1) (g 2) (g 3) (g 4) (g0 0) (g0 1) (g0 2) (g0 3) (g0 4)
def z_b4 (b : Int32) (h : Nat → Int32) : Prop := b = 0 → h 4 = 2
theorem z_b40 {b : Int32} {h : Nat → Int32} (h5 : z_hc5 h) : z_b4 b h := fun _ => h5.2.2.2.2
theorem z_b4n {b : Int32} {h : Nat → Int32} (hb : ¬ b = 0) : z_b4 b h := fun q => absurd q hb
theorem z_b4k {b y : Int32} {j : Nat} {h h2 h' : Nat → Int32} (hb : z_b4 b h) (eh : upd h2 j y = h') (hj : decide (¬ 4 = j) = true) (k5 : z_k5 h h2) : z_b4 b h' := fun q => by
  rw [z_upB eh (of_decide_eq_true hj), k5.2.2.2.2]
  exact hb q
theorem z_k5ct {h hs : Nat → Int32} {kk : Int32} {b9 : Int} (hc : z_ct hs h kk) (hkk : z_in 283 b9 kk) : z_k5 h hs := by
  have kb := hkk.1
  have e : ∀ j : Nat, j < 5 → hs j = h j := fun j hj => by
    rw [hc j (by rw [z_tnc]; omega), if_pos (by omega)]
  exact ⟨e 0 (by decide), e 1 (by decide), e 2 (by decide), e 3 (by decide), e 4 (by decide)⟩
theorem z_k5t9 {f g h : Nat → Int32} (q : z_k5 g h) (p : z_k5 f g) : z_k5 f h := z_k5t p q
section
variable {f h h' hs g g0 nmx : Nat → Int32} {nm nm' : Nat → Int64} {t m n a a1 a2 b b' k v bb r1 r2 F1 G1 F G t0 kk : Int32} {w : Int64}
theorem z_TcM0 (hI : z_LM f t m n a nm h b) (hm : z_mt f t m k a v w bb) (hk : k = 0) (ht : z_in 0 940 t) (h9 : z_in 0 940 m) (q1 : z_sz t t0) (q2 : z_sz m 900) (hb : z_b4 b h) (h4 : z_far4 h) (b0 : z_in 0 5 (h 0)) (b1 : z_in 0 7 (h 1)) (b3 : z_in 0 6 (h 3)) (k5 : z_k5 h g) : z_TcM f t0 g g0 := by
  have q1 : t = t0 := q1
  have q2 : m = 900 := q2
  subst q1 q2
  obtain ⟨a0, h0, h1, h2, h3⟩ := hI
  obtain ⟨k0, k1, k2, k3, k4⟩ := k5
  have c0 := b0.1
  have c1 := b1.1
  have c3 := b3.1
  refine Or.inl ⟨z_mtw nm h b, n.toInt.toNat, ⟨a0, h0, h1, n.toInt.toNat, _, a, h3, Or.inl ⟨z_mt0 hm hk ht h9, rfl⟩⟩, ?_⟩
  rw [k0, k1, k2, k3, k4]
  refine ⟨c0, c1, c3, ?_, ?_, rfl, ?_, ?_⟩
  · show (h 0).toInt = ((z_mls nm 18 (h 0)).length : Int)
    rw [z_mlsL]; omega
  · show (h 1).toInt = ((z_mls nm 23 (h 1)).length : Int)
    rw [z_mlsL]; omega
  · show (h 3).toInt = ((z_mls nm 30 (h 3)).length : Int)
    rw [z_mlsL]; omega
  · show h 4 = if (if b = 0 then 0 else h 4) = 0 then 2 else (if b = 0 then 0 else h 4)
    by_cases q : b = 0
    · rw [if_pos q, if_pos rfl]
      exact hb q
    · rw [if_neg q, if_neg h4]
theorem z_TcM1 (hI : z_LM f t m n a nm h b) (hm : z_mt f t m k a v w bb) (hk : ¬ k = 0) (ht : z_in 0 940 t) (h9 : z_in 0 940 m) (q1 : z_sz t t0) (q2 : z_sz m 900) (hl : z_RM 5 f t m a nm h b r1 a1 nm' h' b' F G) (e1 : r1 = 0) : z_TcM f t0 g g := by
  have q1 : t = t0 := q1
  have q2 : m = 900 := q2
  subst q1 q2
  obtain ⟨a0, h0, h1, h2, h3⟩ := hI
  exact Or.inr ⟨⟨(F, G), a0, h0, h1, n.toInt.toNat, _, a, h3, Or.inr ⟨z_mt0n hm hk ht h9, (F, G), z_bdL (z_RM5L hl e1), rfl⟩⟩, z_q5r⟩
theorem z_TcM2 (hI : z_LM f t m n a nm h b) (hm : z_mt f t m k a v w bb) (hk : ¬ k = 0) (ht : z_in 0 940 t) (h9 : z_in 0 940 m) (q1 : z_sz t t0) (q2 : z_sz m 900) (hl : z_RM 5 f t m a nm h b r1 a1 nm' h' b' F1 G1) (e1 : r1 = 1) (hs : z_Ps f t m a1 59 r2 a2 F G) (e2 : r2 = 0) : z_TcM f t0 g g := by
  have q1 : t = t0 := q1
  have q2 : m = 900 := q2
  subst q1 q2
  obtain ⟨a0, h0, h1, h2, h3⟩ := hI
  refine Or.inr ⟨⟨(F, G), a0, h0, h1, n.toInt.toNat, _, a, h3, Or.inr ⟨z_mt0n hm hk ht h9, (F, G), ?_, rfl⟩⟩, z_q5r⟩
  unfold z_fLn
  rw [z_bdR (z_RM5R hl e1)]
  exact z_bdL (z_PsL hs e2)
end
def z_Ic (u x0 x1 x2 x3 x4 w y0 y1 y2 y3 y4 c a0 a1 a2 a3 a4 d b0 b1 b2 b3 b4 g0 g1 g2 g3 g4 i : Int32) : Prop := (i = 0 ∧ u = 1 ∧ z_q5 x0 x1 x2 x3 x4 g0 g1 g2 g3 g4 ∧ w = d ∧ z_q5 y0 y1 y2 y3 y4 b0 b1 b2 b3 b4) ∨ (i = 1 ∧ w = 1 ∧ z_q5 y0 y1 y2 y3 y4 g0 g1 g2 g3 g4 ∧ u = c ∧ z_q5 x0 x1 x2 x3 x4 a0 a1 a2 a3 a4) ∨ (¬ z_in 0 1 i ∧ u = c ∧ z_q5 x0 x1 x2 x3 x4 a0 a1 a2 a3 a4 ∧ w = d ∧ z_q5 y0 y1 y2 y3 y4 b0 b1 b2 b3 b4)
theorem z_q5t {x0 x1 x2 x3 x4 y0 y1 y2 y3 y4 a0 a1 a2 a3 a4 : Int32} (h : z_q5 x0 x1 x2 x3 x4 a0 a1 a2 a3 a4) (h' : z_q5 y0 y1 y2 y3 y4 a0 a1 a2 a3 a4) : z_q5 x0 x1 x2 x3 x4 y0 y1 y2 y3 y4 := by
  obtain ⟨h0, h1, h2, h3, h4⟩ := h
  obtain ⟨g0, g1, g2, g3, g4⟩ := h'
  exact ⟨h0.trans g0.symm, h1.trans g1.symm, h2.trans g2.symm, h3.trans g3.symm, h4.trans g4.symm⟩
theorem z_IcE {u x0 x1 x2 x3 x4 w y0 y1 y2 y3 y4 u9 p0 p1 p2 p3 p4 w9 q0 q1 q2 q3 q4 c a0 a1 a2 a3 a4 d b0 b1 b2 b3 b4 g0 g1 g2 g3 g4 i : Int32} (h : z_Ic u x0 x1 x2 x3 x4 w y0 y1 y2 y3 y4 c a0 a1 a2 a3 a4 d b0 b1 b2 b3 b4 g0 g1 g2 g3 g4 i) (h' : z_Ic u9 p0 p1 p2 p3 p4 w9 q0 q1 q2 q3 q4 c a0 a1 a2 a3 a4 d b0 b1 b2 b3 b4 g0 g1 g2 g3 g4 i) : u = u9 ∧ z_q5 x0 x1 x2 x3 x4 p0 p1 p2 p3 p4 ∧ w = w9 ∧ z_q5 y0 y1 y2 y3 y4 q0 q1 q2 q3 q4 := by
  rcases h with ⟨i0, h0, h1, h2, h3⟩ | ⟨i0, h0, h1, h2, h3⟩ | ⟨i0, h0, h1, h2, h3⟩ <;> rcases h' with ⟨j0, g0, g1, g2, g3⟩ | ⟨j0, g0, g1, g2, g3⟩ | ⟨j0, g0, g1, g2, g3⟩
  · exact ⟨h0.trans g0.symm, z_q5t h1 g1, h2.trans g2.symm, z_q5t h3 g3⟩
  · exact absurd (i0.symm.trans j0) (by decide)
  · exact absurd (show z_in 0 1 i by rw [i0]; exact ⟨by decide, by decide⟩) j0
  · exact absurd (i0.symm.trans j0) (by decide)
  · exact ⟨h2.trans g2.symm, z_q5t h3 g3, h0.trans g0.symm, z_q5t h1 g1⟩
  · exact absurd (show z_in 0 1 i by rw [i0]; exact ⟨by decide, by decide⟩) j0
  · exact absurd (show z_in 0 1 i by rw [j0]; exact ⟨by decide, by decide⟩) i0
  · exact absurd (show z_in 0 1 i by rw [j0]; exact ⟨by decide, by decide⟩) i0
  · exact ⟨h0.trans g0.symm, z_q5t h1 g1, h2.trans g2.symm, z_q5t h3 g3⟩
section
variable {u x0 x1 x2 x3 x4 w y0 y1 y2 y3 y4 c a0 a1 a2 a3 a4 d b0 b1 b2 b3 b4 g0 g1 g2 g3 g4 i : Int32}
theorem z_i0 (h : z_in 0 0 i) : i = 0 := Int32.toInt_inj.mp (Int.le_antisymm h.2 h.1)
theorem z_i1 (h : z_in 1 1 i) : i = 1 := Int32.toInt_inj.mp (Int.le_antisymm h.2 h.1)
theorem z_nL (h : z_in (-2147483648) (-1) i) : ¬ z_in 0 1 i := fun q => by have := q.1; have := h.2; omega
theorem z_nH (h : z_in 2 2147483647 i) : ¬ z_in 0 1 i := fun q => by have := q.2; have := h.1; omega
theorem z_Ic0 (h : z_in 0 0 i) (e0 : z_sz x0 g0) (e1 : z_sz x1 g1) (e2 : z_sz x2 g2) (e3 : z_sz x3 g3) (e4 : z_sz x4 g4) : z_Ic 1 x0 x1 x2 x3 x4 d b0 b1 b2 b3 b4 c a0 a1 a2 a3 a4 d b0 b1 b2 b3 b4 g0 g1 g2 g3 g4 i := Or.inl ⟨z_i0 h, rfl, ⟨e0, e1, e2, e3, e4⟩, rfl, z_q5r⟩
theorem z_Ic1 (h : z_in 1 1 i) (e0 : z_sz y0 g0) (e1 : z_sz y1 g1) (e2 : z_sz y2 g2) (e3 : z_sz y3 g3) (e4 : z_sz y4 g4) : z_Ic c a0 a1 a2 a3 a4 1 y0 y1 y2 y3 y4 c a0 a1 a2 a3 a4 d b0 b1 b2 b3 b4 g0 g1 g2 g3 g4 i := Or.inr (Or.inl ⟨z_i1 h, rfl, ⟨e0, e1, e2, e3, e4⟩, rfl, z_q5r⟩)
theorem z_IcN (h : ¬ z_in 0 1 i) : z_Ic c a0 a1 a2 a3 a4 d b0 b1 b2 b3 b4 c a0 a1 a2 a3 a4 d b0 b1 b2 b3 b4 g0 g1 g2 g3 g4 i := Or.inr (Or.inr ⟨h, rfl, z_q5r, rfl, z_q5r⟩)
theorem z_IcL (h : z_in (-2147483648) (-1) i) : z_Ic c a0 a1 a2 a3 a4 d b0 b1 b2 b3 b4 c a0 a1 a2 a3 a4 d b0 b1 b2 b3 b4 g0 g1 g2 g3 g4 i := z_IcN (z_nL h)
theorem z_IcH (h : z_in 2 2147483647 i) : z_Ic c a0 a1 a2 a3 a4 d b0 b1 b2 b3 b4 c a0 a1 a2 a3 a4 d b0 b1 b2 b3 b4 g0 g1 g2 g3 g4 i := z_IcN (z_nH h)
end
def z_IcM (h9 k9 h k g : Nat → Int32) (i : Int32) : Prop := z_Ic (k9 0) (h9 0) (h9 1) (h9 2) (h9 3) (h9 4) (k9 1) (h9 283) (h9 284) (h9 285) (h9 286) (h9 287) (k 0) (h 0) (h 1) (h 2) (h 3) (h 4) (k 1) (h 283) (h 284) (h 285) (h 286) (h 287) (g 0) (g 1) (g 2) (g 3) (g 4) i
theorem z_i01c {i : Int32} (h : z_in 0 1 i) : i = 0 ∨ i = 1 := by
  have q1 := h.1
  have q2 := h.2
  have e : i.toInt = 0 ∨ i.toInt = 1 := by omega
  rcases e with e | e
  · exact Or.inl (Int32.toInt_inj.mp (e.trans (by decide)))
  · exact Or.inr (Int32.toInt_inj.mp (e.trans (by decide)))
theorem z_IcMS {h9 k9 h k g : Nat → Int32} {i kk : Int32} {b9 : Int} (hi : z_in 0 1 i) (ek : upd k i.toNatClampNeg 1 = k9) (hp : z_cp h h9 g i kk) (hkk : z_in 283 b9 kk) : z_IcM h9 k9 h k g i := by
  have kb := hkk.1
  have hp1 : ∀ j : Nat, j < 283 → h9 (283 * i.toNatClampNeg + j) = g j := fun j hj => hp.1 j (by rw [z_tnc]; omega)
  rcases z_i01c hi with e | e
  · subst e
    have p1 : ∀ j : Nat, j < 283 → h9 j = g j := fun j hj => by
      have q := hp1 j hj
      rw [show 283 * (0 : Int32).toNatClampNeg + j = j from Nat.zero_add j] at q
      exact q
    have p2 : ∀ j : Nat, 283 ≤ j → h9 j = h j := fun j hj => hp.2 j (Or.inr hj)
    rw [← ek]
    exact Or.inl ⟨rfl, z_updE rfl, ⟨p1 0 (by decide), p1 1 (by decide), p1 2 (by decide), p1 3 (by decide), p1 4 (by decide)⟩, z_updN (by decide), p2 283 (by decide), p2 284 (by decide), p2 285 (by decide), p2 286 (by decide), p2 287 (by decide)⟩
  · subst e
    have p1 : ∀ j : Nat, j < 283 → h9 (283 + j) = g j := fun j hj => hp1 j hj
    have p2 : ∀ j : Nat, j < 283 → h9 j = h j := fun j hj => hp.2 j (Or.inl hj)
    rw [← ek]
    exact Or.inr (Or.inl ⟨rfl, z_updE rfl, ⟨p1 0 (by decide), p1 1 (by decide), p1 2 (by decide), p1 3 (by decide), p1 4 (by decide)⟩, z_updN (by decide), p2 0 (by decide), p2 1 (by decide), p2 2 (by decide), p2 3 (by decide), p2 4 (by decide)⟩)
theorem z_IcMN {h k g : Nat → Int32} {r i : Int32} (hi : z_im r i) (h0 : r = 0) : z_IcM h k h k g i := by
  rcases hi with ⟨e, -⟩ | ⟨-, q⟩
  · rw [h0] at e
    exact absurd e (by decide)
  · exact z_IcN q
def z_Rs (x0 x1 x2 x3 x4 g0 g1 g2 g3 g4 c a0 a1 a2 a3 a4 d b0 b1 b2 b3 b4 i : Int32) : Prop := (i = 0 ∧ c = 1 ∧ z_q5 x0 x1 x2 x3 x4 a0 a1 a2 a3 a4) ∨ (i = 1 ∧ d = 1 ∧ z_q5 x0 x1 x2 x3 x4 b0 b1 b2 b3 b4) ∨ (¬ (i = 0 ∧ c = 1) ∧ ¬ (i = 1 ∧ d = 1) ∧ z_q5 x0 x1 x2 x3 x4 g0 g1 g2 g3 g4)
theorem z_RsE {x0 x1 x2 x3 x4 p0 p1 p2 p3 p4 g0 g1 g2 g3 g4 c a0 a1 a2 a3 a4 d b0 b1 b2 b3 b4 i : Int32} (h : z_Rs x0 x1 x2 x3 x4 g0 g1 g2 g3 g4 c a0 a1 a2 a3 a4 d b0 b1 b2 b3 b4 i) (h' : z_Rs p0 p1 p2 p3 p4 g0 g1 g2 g3 g4 c a0 a1 a2 a3 a4 d b0 b1 b2 b3 b4 i) : z_q5 x0 x1 x2 x3 x4 p0 p1 p2 p3 p4 := by
  rcases h with ⟨i0, h0, h1⟩ | ⟨i0, h0, h1⟩ | ⟨i0, h0, h1⟩ <;> rcases h' with ⟨j0, g0, g1⟩ | ⟨j0, g0, g1⟩ | ⟨j0, g0, g1⟩
  · exact z_q5t h1 g1
  · exact absurd (i0.symm.trans j0) (by decide)
  · exact absurd ⟨i0, h0⟩ j0
  · exact absurd (i0.symm.trans j0) (by decide)
  · exact z_q5t h1 g1
  · exact absurd ⟨i0, h0⟩ g0
  · exact absurd ⟨j0, g0⟩ i0
  · exact absurd ⟨j0, g0⟩ h0
  · exact z_q5t h1 g1
section
variable {x0 x1 x2 x3 x4 g0 g1 g2 g3 g4 c a0 a1 a2 a3 a4 d b0 b1 b2 b3 b4 i : Int32}
theorem z_Rs0 (h : z_in 0 0 i) (hc : c = 1) (e0 : z_sz x0 a0) (e1 : z_sz x1 a1) (e2 : z_sz x2 a2) (e3 : z_sz x3 a3) (e4 : z_sz x4 a4) : z_Rs x0 x1 x2 x3 x4 g0 g1 g2 g3 g4 c a0 a1 a2 a3 a4 d b0 b1 b2 b3 b4 i := Or.inl ⟨z_i0 h, hc, ⟨e0, e1, e2, e3, e4⟩⟩
theorem z_Rs1 (h : z_in 1 1 i) (hd : d = 1) (e0 : z_sz x0 b0) (e1 : z_sz x1 b1) (e2 : z_sz x2 b2) (e3 : z_sz x3 b3) (e4 : z_sz x4 b4) : z_Rs x0 x1 x2 x3 x4 g0 g1 g2 g3 g4 c a0 a1 a2 a3 a4 d b0 b1 b2 b3 b4 i := Or.inr (Or.inl ⟨z_i1 h, hd, ⟨e0, e1, e2, e3, e4⟩⟩)
theorem z_RsN (h : ¬ z_in 0 1 i) : z_Rs g0 g1 g2 g3 g4 g0 g1 g2 g3 g4 c a0 a1 a2 a3 a4 d b0 b1 b2 b3 b4 i := Or.inr (Or.inr ⟨fun q => h (by rw [q.1]; exact ⟨by decide, by decide⟩), fun q => h (by rw [q.1]; exact ⟨by decide, by decide⟩), z_q5r⟩)
theorem z_RsL (h : z_in (-2147483648) (-1) i) : z_Rs g0 g1 g2 g3 g4 g0 g1 g2 g3 g4 c a0 a1 a2 a3 a4 d b0 b1 b2 b3 b4 i := z_RsN (z_nL h)
theorem z_RsH (h : z_in 2 2147483647 i) : z_Rs g0 g1 g2 g3 g4 g0 g1 g2 g3 g4 c a0 a1 a2 a3 a4 d b0 b1 b2 b3 b4 i := z_RsN (z_nH h)
theorem z_RsK0 (h : z_in 0 0 i) (hc : c = 0) : z_Rs g0 g1 g2 g3 g4 g0 g1 g2 g3 g4 c a0 a1 a2 a3 a4 d b0 b1 b2 b3 b4 i := Or.inr (Or.inr ⟨fun q => by rw [hc] at q; exact absurd q.2 (by decide), fun q => by rw [z_i0 h] at q; exact absurd q.1 (by decide), z_q5r⟩)
theorem z_RsK1 (h : z_in 1 1 i) (hd : d = 0) : z_Rs g0 g1 g2 g3 g4 g0 g1 g2 g3 g4 c a0 a1 a2 a3 a4 d b0 b1 b2 b3 b4 i := Or.inr (Or.inr ⟨fun q => by rw [z_i1 h] at q; exact absurd q.1 (by decide), fun q => by rw [hd] at q; exact absurd q.2 (by decide), z_q5r⟩)
theorem z_RsC {m4 m9 : Int32} (h : z_Rs x0 x1 x2 x3 x4 g0 g1 g2 g3 g4 c a0 a1 a2 a3 m4 d b0 b1 b2 b3 m9 i) (h0 : c = 1 → m4 = a4) (h1 : d = 1 → m9 = b4) : z_Rs x0 x1 x2 x3 x4 g0 g1 g2 g3 g4 c a0 a1 a2 a3 a4 d b0 b1 b2 b3 b4 i := by
  rcases h with ⟨e, q, p0, p1, p2, p3, p4⟩ | ⟨e, q, p0, p1, p2, p3, p4⟩ | h
  · exact Or.inl ⟨e, q, p0, p1, p2, p3, p4.trans (h0 q)⟩
  · exact Or.inr (Or.inl ⟨e, q, p0, p1, p2, p3, p4.trans (h1 q)⟩)
  · exact Or.inr (Or.inr h)
end
def z_RsM (g9 g h k : Nat → Int32) (i : Int32) : Prop := z_Rs (g9 0) (g9 1) (g9 2) (g9 3) (g9 4) (g 0) (g 1) (g 2) (g 3) (g 4) (k 0) (h 0) (h 1) (h 2) (h 3) (h 4) (k 1) (h 283) (h 284) (h 285) (h 286) (h 287) i
theorem z_RsMS {g9 g h k : Nat → Int32} {i y kk : Int32} {b9 : Int} (hi : z_in 0 1 i) (ey : y = k i.toNatClampNeg) (hy : y = 1) (hq : z_cq g9 h i kk) (hkk : z_in 283 b9 kk) : z_RsM g9 g h k i := by
  have kb := hkk.1
  have hp1 : ∀ j : Nat, j < 283 → g9 j = h (283 * i.toNatClampNeg + j) := fun j hj => hq j (by rw [z_tnc]; omega)
  rcases z_i01c hi with e | e
  · subst e
    have p1 : ∀ j : Nat, j < 283 → g9 j = h j := fun j hj => by
      have q := hp1 j hj
      rw [show 283 * (0 : Int32).toNatClampNeg + j = j from Nat.zero_add j] at q
      exact q
    exact Or.inl ⟨rfl, ey.symm.trans hy, p1 0 (by decide), p1 1 (by decide), p1 2 (by decide), p1 3 (by decide), p1 4 (by decide)⟩
  · subst e
    have p1 : ∀ j : Nat, j < 283 → g9 j = h (283 + j) := fun j hj => hp1 j hj
    exact Or.inr (Or.inl ⟨rfl, ey.symm.trans hy, p1 0 (by decide), p1 1 (by decide), p1 2 (by decide), p1 3 (by decide), p1 4 (by decide)⟩)
theorem z_RsMN {g h k : Nat → Int32} {r i : Int32} (hi : z_im r i) (h0 : r = 0) : z_RsM g g h k i := by
  rcases hi with ⟨e, -⟩ | ⟨-, q⟩
  · rw [h0] at e
    exact absurd e (by decide)
  · exact z_RsN q
theorem z_RsMK {g h k : Nat → Int32} {i y : Int32} (hi : z_in 0 1 i) (ey : y = k i.toNatClampNeg) (hy : y = 0) : z_RsM g g h k i := by
  rcases z_i01c hi with e | e
  · subst e
    exact z_RsK0 (i := 0) ⟨by decide, by decide⟩ (ey.symm.trans hy)
  · subst e
    exact z_RsK1 (i := 1) ⟨by decide, by decide⟩ (ey.symm.trans hy)
def z_s0 (i x a : Int32) : Int32 := if i = 0 then x else a
def z_s1 (i x a : Int32) : Int32 := if i = 1 then x else a
section
variable {f g g9 h h9 k k9 : Nat → Int32} {t i r c0 c1 c2 c3 c4 u0 p0 p1 p2 p3 p4 u1 q0 q1 q2 q3 q4 : Int32}
theorem z_TcX (h : z_TcM f t g9 g) (e0 : g 0 = c0) (e1 : g 1 = c1) (e2 : g 2 = c2) (e3 : g 3 = c3) (e4 : g 4 = c4) : z_Tc f t (g9 0) (g9 1) (g9 2) (g9 3) (g9 4) c0 c1 c2 c3 c4 := by
  subst e0 e1 e2 e3 e4
  exact h
theorem z_cuX (h : z_cuM r i g t) (e0 : g 0 = c0) (e1 : g 1 = c1) (e2 : g 2 = c2) (e3 : g 3 = c3) (e4 : g 4 = c4) : z_cu r i c0 c1 c2 c3 c4 t := by
  subst e0 e1 e2 e3 e4
  exact h
theorem z_RsX (hr : z_RsM g9 g h k i) (e0 : g 0 = c0) (e1 : g 1 = c1) (e2 : g 2 = c2) (e3 : g 3 = c3) (e4 : g 4 = c4) (d0 : k 0 = u0) (d1 : h 0 = p0) (d2 : h 1 = p1) (d3 : h 2 = p2) (d4 : h 3 = p3) (d5 : k 0 = 1 → h 4 = p4) (d6 : k 1 = u1) (d7 : h 283 = q0) (d8 : h 284 = q1) (d9 : h 285 = q2) (d10 : h 286 = q3) (d11 : k 1 = 1 → h 287 = q4) : z_Rs (g9 0) (g9 1) (g9 2) (g9 3) (g9 4) c0 c1 c2 c3 c4 u0 p0 p1 p2 p3 p4 u1 q0 q1 q2 q3 q4 i := by
  subst d0 d1 d2 d3 d4 d6 d7 d8 d9 d10 e0 e1 e2 e3 e4
  exact z_RsC hr d5 d11
theorem z_s0T {x a : Int32} (e : i = 0) : z_s0 i x a = x := if_pos e
theorem z_s0F {x a : Int32} (e : ¬ i = 0) : z_s0 i x a = a := if_neg e
theorem z_s1T {x a : Int32} (e : i = 1) : z_s1 i x a = x := if_pos e
theorem z_s1F {x a : Int32} (e : ¬ i = 1) : z_s1 i x a = a := if_neg e
theorem z_i0n (e : i = 0) : ¬ i = 1 := fun q => absurd (e.symm.trans q) (by decide)
theorem z_i1n (e : i = 1) : ¬ i = 0 := fun q => absurd (e.symm.trans q) (by decide)
theorem z_nn0 (e : ¬ z_in 0 1 i) : ¬ i = 0 := fun q => e (by rw [q]; exact ⟨by decide, by decide⟩)
theorem z_nn1 (e : ¬ z_in 0 1 i) : ¬ i = 1 := fun q => e (by rw [q]; exact ⟨by decide, by decide⟩)
theorem z_IcX (hr : z_IcM h9 k9 h k g i) (d0 : k 0 = u0) (d1 : h 0 = p0) (d2 : h 1 = p1) (d3 : h 2 = p2) (d4 : h 3 = p3) (d5 : k 0 = 1 → h 4 = p4) (d6 : k 1 = u1) (d7 : h 283 = q0) (d8 : h 284 = q1) (d9 : h 285 = q2) (d10 : h 286 = q3) (d11 : k 1 = 1 → h 287 = q4) (e0 : g 0 = c0) (e1 : g 1 = c1) (e2 : g 2 = c2) (e3 : g 3 = c3) (e4 : g 4 = c4) : z_Ic (k9 0) (h9 0) (h9 1) (h9 2) (h9 3) (z_s0 i (h9 4) p4) (k9 1) (h9 283) (h9 284) (h9 285) (h9 286) (z_s1 i (h9 287) q4) u0 p0 p1 p2 p3 p4 u1 q0 q1 q2 q3 q4 c0 c1 c2 c3 c4 i := by
  subst d0 d1 d2 d3 d4 d6 d7 d8 d9 d10 e0 e1 e2 e3 e4
  rcases hr with ⟨e, a, ⟨x0, x1, x2, x3, x4⟩, b, ⟨y0, y1, y2, y3, y4⟩⟩ | ⟨e, a, ⟨x0, x1, x2, x3, x4⟩, b, ⟨y0, y1, y2, y3, y4⟩⟩ | ⟨e, a, ⟨x0, x1, x2, x3, x4⟩, b, ⟨y0, y1, y2, y3, y4⟩⟩
  · exact Or.inl ⟨e, a, ⟨x0, x1, x2, x3, (z_s0T e).trans x4⟩, b, ⟨y0, y1, y2, y3, z_s1F (z_i0n e)⟩⟩
  · exact Or.inr (Or.inl ⟨e, a, ⟨x0, x1, x2, x3, (z_s1T e).trans x4⟩, b, ⟨y0, y1, y2, y3, z_s0F (z_i1n e)⟩⟩)
  · exact Or.inr (Or.inr ⟨e, a, ⟨x0, x1, x2, x3, z_s0F (z_nn0 e)⟩, b, ⟨y0, y1, y2, y3, z_s1F (z_nn1 e)⟩⟩)
theorem z_IcMa (hr : z_IcM h9 k9 h k g i) (h0 : k 0 = 1 → h 4 = p4) : k9 0 = 1 → h9 4 = z_s0 i (h9 4) p4 := by
  intro q
  rcases hr with ⟨e, -⟩ | ⟨e, -, -, a, ⟨y0, y1, y2, y3, y4⟩⟩ | ⟨e, a, ⟨y0, y1, y2, y3, y4⟩, -⟩
  · exact (z_s0T e).symm
  · exact (y4.trans (h0 (a.symm.trans q))).trans (z_s0F (z_i1n e)).symm
  · exact (y4.trans (h0 (a.symm.trans q))).trans (z_s0F (z_nn0 e)).symm
theorem z_IcMb (hr : z_IcM h9 k9 h k g i) (h0 : k 1 = 1 → h 287 = q4) : k9 1 = 1 → h9 287 = z_s1 i (h9 287) q4 := by
  intro q
  rcases hr with ⟨e, -, -, a, ⟨y0, y1, y2, y3, y4⟩⟩ | ⟨e, -⟩ | ⟨e, -, -, a, ⟨y0, y1, y2, y3, y4⟩⟩
  · exact (y4.trans (h0 (a.symm.trans q))).trans (z_s1F (z_i0n e)).symm
  · exact (z_s1T e).symm
  · exact (y4.trans (h0 (a.symm.trans q))).trans (z_s1F (z_nn1 e)).symm
end
theorem z_dgI {c : Int32} (hc : z_isD c) : z_in 0 9 (c - 48) := z_sub (a := 48) (b := 57) (c := 48) (d := 48) hc ⟨by decide, by decide⟩ rfl rfl
theorem z_n1i {b : Int} {x c : Int32} {e : Int} (hx : z_in 0 b x) (hc : z_isD c) (h1 : decide (b * 10 ≤ 2147483647) = true) (h2 : decide (b * 10 + 9 ≤ 2147483647 ∧ 0 ≤ b * 10 ∧ e = b * 10 + 9) = true) : z_in 0 e (x * 10 + (c - 48)) := by
  have h1 := of_decide_eq_true h1
  obtain ⟨h2, h4, h3⟩ := of_decide_eq_true h2
  have m : z_in 0 (b * 10) (x * 10) := z_mul (a := 0) (b := b) (c := 10) (d := 10) hx ⟨by decide, by decide⟩ (decide_eq_true ⟨by decide, by decide, h1⟩) (decide_eq_true ⟨by decide, rfl⟩)
  rw [h3]
  exact z_add (a := 0) (b := b * 10) (c := 0) (d := 9) m (z_dgI hc) (decide_eq_true ⟨by decide, h2⟩) (decide_eq_true ⟨by decide, rfl⟩)
theorem z_n10R {f : Nat → Int32} {a n : Nat} (hn : n ≤ 3) (h : z_Ds f a n) : z_in 0 999 (z_n10 f a n) := by
  have i0 : z_in 0 0 (z_n10 f a 0) := ⟨(by decide : (0 : Int) ≤ (0 : Int32).toInt), (by decide : (0 : Int32).toInt ≤ 0)⟩
  have c : n = 0 ∨ n = 1 ∨ n = 2 ∨ n = 3 := by omega
  rcases c with c | c | c | c
  · subst c
    exact z_w i0 rfl
  · subst c
    have i1 : z_in 0 9 (z_n10 f a 1) := z_n1i (x := z_n10 f a 0) (c := z_o f (a + 0)) i0 (h 0 (by decide)) rfl rfl
    exact z_w i1 rfl
  · subst c
    have i1 : z_in 0 9 (z_n10 f a 1) := z_n1i (x := z_n10 f a 0) (c := z_o f (a + 0)) i0 (h 0 (by decide)) rfl rfl
    have i2 : z_in 0 99 (z_n10 f a 2) := z_n1i (x := z_n10 f a 1) (c := z_o f (a + 1)) i1 (h 1 (by decide)) rfl rfl
    exact z_w i2 rfl
  · subst c
    have i1 : z_in 0 9 (z_n10 f a 1) := z_n1i (x := z_n10 f a 0) (c := z_o f (a + 0)) i0 (h 0 (by decide)) rfl rfl
    have i2 : z_in 0 99 (z_n10 f a 2) := z_n1i (x := z_n10 f a 1) (c := z_o f (a + 1)) i1 (h 1 (by decide)) rfl rfl
    exact z_n1i (x := z_n10 f a 2) (c := z_o f (a + 2)) i2 (h 2 (by decide)) rfl rfl
theorem z_TNR {f : Nat → Int32} {t m a n : Int32} (h : z_TN f t m a n) : z_in 0 999 n := by
  obtain ⟨-, E, -, -, l, d, e⟩ := h
  rw [e]
  exact z_n10R l d
theorem z_wxS {f : Nat → Int32} {t m a : Int32} : z_iw9 f t m a (z_wx f t m a) := by
  by_cases q : ∃ w, z_iw9 f t m a w
  · obtain ⟨w, hw⟩ := q
    rw [z_wxE hw]
    exact hw
  · exfalso
    refine q ⟨0, Or.inl ⟨rfl, fun i i1 i2 s => q ⟨i, Or.inr ⟨i1, i2, s⟩⟩⟩⟩
theorem z_wxT {f : Nat → Int32} {t m a : Int32} {i : Nat} (hi : 1 ≤ i) (h : z_wx f t m a = i) : z_TL f t m a (z_cds.getD i 0) := by
  have s := z_wxS (f := f) (t := t) (m := m) (a := a)
  rw [h] at s
  rcases s with ⟨e, -⟩ | ⟨-, -, s⟩
  · omega
  · exact s
section
variable {f : Nat → Int32} {t m a q : Int32} {j : Int64} {i : Nat}
theorem z_qx1 (h : z_qW q f t m a j) (e : q = 1) (hn : z_nw j (z_cds.getD i 0)) (hi : decide (1 ≤ i ∧ i < 22) = true) : z_wx f t m a = i := by
  have hi := of_decide_eq_true hi
  exact z_wxE (Or.inr ⟨hi.1, hi.2, z_qWT h e hn⟩)
theorem z_qx0 (h : z_qW q f t m a j) (e : q = 0) (hn : z_nw j (z_cds.getD i 0)) (hi : decide (1 ≤ i) = true) : ¬ z_wx f t m a = i := fun s => z_qWF h e hn (z_wxT (of_decide_eq_true hi) s)
theorem z_qWX {q1 : Int32} {c : Int64} {P : Prop} (h1 : z_qW q f t m a j) (e1 : q = 1) (h2 : z_qW q1 f t m a j) (e2 : q1 = 0) (hn : z_nw j c) : P := absurd (z_qWT h1 e1 hn) (z_qWF h2 e2 hn)
theorem z_wxN (hi : 1 ≤ i) (h : z_wx f t m a = i) (x : Int32) : ¬ z_TS f t m a x := fun s => z_TsNl s (z_wxT hi h)
theorem z_wxE0 (h : z_TE t m a) : z_wx f t m a = 0 := z_wxE (Or.inl ⟨rfl, fun i _ _ s => s.1 h.1⟩)
theorem z_TSE (h : z_TE t m a) (x : Int32) : ¬ z_TS f t m a x := fun s => s.1 h.1
end
def z_lo (r : Int32) (f : Nat → Int32) (t m a : Int32) : Prop := (r = 0 ∧ z_wx f t m a = 3) ∨ (r = 1 ∧ z_wx f t m a = 15) ∨ (r = 2 ∧ z_wx f t m a = 16) ∨ (r = 3 ∧ z_wx f t m a = 17) ∨ (r = 4 ∧ z_wx f t m a = 18) ∨ (r = 5 ∧ z_wx f t m a = 19) ∨ (r = 6 ∧ z_wx f t m a = 20) ∨ (r = 7 ∧ z_wx f t m a = 21) ∨ (r = -1 ∧ ¬ (z_wx f t m a = 3 ∨ 15 ≤ z_wx f t m a))
section
variable {f : Nat → Int32} {t m a q q1 q2 q3 q4 q5 q6 q7 q8 r : Int32}
theorem z_lo0 (h : z_qW q f t m a 448377742451) (e : q = 1) : z_lo 0 f t m a := Or.inl ⟨rfl, z_qx1 h e z_wd3 rfl⟩
theorem z_lo1 (h : z_qW q f t m a 418431069797) (e : q = 1) : z_lo 1 f t m a := Or.inr (Or.inl ⟨rfl, z_qx1 h e z_wd15 rfl⟩)
theorem z_lo2 (h : z_qW q f t m a 469852319348) (e : q = 1) : z_lo 2 f t m a := Or.inr (Or.inr (Or.inl ⟨rfl, z_qx1 h e z_wd16 rfl⟩))
theorem z_lo3 (h : z_qW q f t m a 24948) (e : q = 1) : z_lo 3 f t m a := Or.inr (Or.inr (Or.inr (Or.inl ⟨rfl, z_qx1 h e z_wd17 rfl⟩)))
theorem z_lo4 (h : z_qW q f t m a 2003399784) (e : q = 1) : z_lo 4 f t m a := Or.inr (Or.inr (Or.inr (Or.inr (Or.inl ⟨rfl, z_qx1 h e z_wd18 rfl⟩))))
theorem z_lo5 (h : z_qW q f t m a 418363302244) (e : q = 1) : z_lo 5 f t m a := Or.inr (Or.inr (Or.inr (Or.inr (Or.inr (Or.inl ⟨rfl, z_qx1 h e z_wd19 rfl⟩)))))
theorem z_lo6 (h : z_qW q f t m a 2003136628) (e : q = 1) : z_lo 6 f t m a := Or.inr (Or.inr (Or.inr (Or.inr (Or.inr (Or.inr (Or.inl ⟨rfl, z_qx1 h e z_wd20 rfl⟩))))))
theorem z_lo7 (h : z_qW q f t m a 121450625394034) (e : q = 1) : z_lo 7 f t m a := Or.inr (Or.inr (Or.inr (Or.inr (Or.inr (Or.inr (Or.inr (Or.inl ⟨rfl, z_qx1 h e z_wd21 rfl⟩)))))))
theorem z_wxB : z_wx f t m a < 22 := by
  rcases z_wxS (f := f) (t := t) (m := m) (a := a) with ⟨e, -⟩ | ⟨-, e, -⟩
  · omega
  · exact e
theorem z_loN (h1 : z_qW q1 f t m a 448377742451) (e1 : q1 = 0) (h2 : z_qW q2 f t m a 418431069797) (e2 : q2 = 0) (h3 : z_qW q3 f t m a 469852319348) (e3 : q3 = 0) (h4 : z_qW q4 f t m a 24948) (e4 : q4 = 0) (h5 : z_qW q5 f t m a 2003399784) (e5 : q5 = 0) (h6 : z_qW q6 f t m a 418363302244) (e6 : q6 = 0) (h7 : z_qW q7 f t m a 2003136628) (e7 : q7 = 0) (h8 : z_qW q8 f t m a 121450625394034) (e8 : q8 = 0) : z_lo (-1) f t m a := by
  have x1 := z_qx0 h1 e1 z_wd3 rfl
  have x2 := z_qx0 h2 e2 z_wd15 rfl
  have x3 := z_qx0 h3 e3 z_wd16 rfl
  have x4 := z_qx0 h4 e4 z_wd17 rfl
  have x5 := z_qx0 h5 e5 z_wd18 rfl
  have x6 := z_qx0 h6 e6 z_wd19 rfl
  have x7 := z_qx0 h7 e7 z_wd20 rfl
  have x8 := z_qx0 h8 e8 z_wd21 rfl
  have b := z_wxB (f := f) (t := t) (m := m) (a := a)
  refine Or.inr (Or.inr (Or.inr (Or.inr (Or.inr (Or.inr (Or.inr (Or.inr ⟨rfl, fun s => ?_⟩)))))))
  omega
theorem z_loI {lo hi : Int} (h : z_lo r f t m a) (hr : z_in lo hi r) : (0 ≤ lo → z_wx f t m a = 3 ∨ 15 ≤ z_wx f t m a) ∧ (hi < 0 → ¬ (z_wx f t m a = 3 ∨ 15 ≤ z_wx f t m a)) ∧ (0 ≤ lo → hi < 3 → z_wx f t m a = 3 ∨ z_wx f t m a = 15 ∨ z_wx f t m a = 16) ∧ (lo = 3 → hi = 3 → z_wx f t m a = 17) ∧ (lo = 4 → hi = 4 → z_wx f t m a = 18) ∧ (5 ≤ lo → z_wx f t m a = 19 ∨ z_wx f t m a = 20 ∨ z_wx f t m a = 21) := by
  have r1 := hr.1
  have r2 := hr.2
  have c : (r.toInt = 0 ∧ z_wx f t m a = 3) ∨ (r.toInt = 1 ∧ z_wx f t m a = 15) ∨ (r.toInt = 2 ∧ z_wx f t m a = 16) ∨ (r.toInt = 3 ∧ z_wx f t m a = 17) ∨ (r.toInt = 4 ∧ z_wx f t m a = 18) ∨ (r.toInt = 5 ∧ z_wx f t m a = 19) ∨ (r.toInt = 6 ∧ z_wx f t m a = 20) ∨ (r.toInt = 7 ∧ z_wx f t m a = 21) ∨ (r.toInt = -1 ∧ ¬ (z_wx f t m a = 3 ∨ 15 ≤ z_wx f t m a)) := by
    rcases h with ⟨e, h⟩ | ⟨e, h⟩ | ⟨e, h⟩ | ⟨e, h⟩ | ⟨e, h⟩ | ⟨e, h⟩ | ⟨e, h⟩ | ⟨e, h⟩ | ⟨e, h⟩
    · exact Or.inl ⟨by rw [e] <;> rfl, h⟩
    · exact Or.inr (Or.inl ⟨by rw [e] <;> rfl, h⟩)
    · exact Or.inr (Or.inr (Or.inl ⟨by rw [e] <;> rfl, h⟩))
    · exact Or.inr (Or.inr (Or.inr (Or.inl ⟨by rw [e] <;> rfl, h⟩)))
    · exact Or.inr (Or.inr (Or.inr (Or.inr (Or.inl ⟨by rw [e] <;> rfl, h⟩))))
    · exact Or.inr (Or.inr (Or.inr (Or.inr (Or.inr (Or.inl ⟨by rw [e] <;> rfl, h⟩)))))
    · exact Or.inr (Or.inr (Or.inr (Or.inr (Or.inr (Or.inr (Or.inl ⟨by rw [e] <;> rfl, h⟩))))))
    · exact Or.inr (Or.inr (Or.inr (Or.inr (Or.inr (Or.inr (Or.inr (Or.inl ⟨by rw [e] <;> rfl, h⟩)))))))
    · exact Or.inr (Or.inr (Or.inr (Or.inr (Or.inr (Or.inr (Or.inr (Or.inr ⟨by rw [e] <;> rfl, h⟩)))))))
  refine ⟨?_, ?_, ?_, ?_, ?_, ?_⟩
  · intro s
    omega
  · intro s
    omega
  · intro s s2
    omega
  · intro s s2
    omega
  · intro s s2
    omega
  · intro s
    omega
theorem z_stN (h : z_qW q f t m a 7237492) (e : q = 1) : z_st9 f t m a := fun s => s.2 (by
  have e := z_qx1 h e z_wd14 rfl
  unfold z_bg
  omega)
theorem z_stL {hi : Int} (h : z_lo r f t m a) (hr : z_in 0 hi r) : z_st9 f t m a := fun s => s.2 (by
  have e := (z_loI h hr).1 (Int.le_refl _)
  have b := z_wxB (f := f) (t := t) (m := m) (a := a)
  unfold z_bg
  omega)
theorem z_stn (h : z_qW q f t m a 7237492) (e : q = 0) (h2 : z_SS q1 f t m a 40) (e2 : q1 = 0) (h3 : z_lo r f t m a) (hr : z_in (-1) (-1) r) : ¬ z_TS f t m a 40 ∧ ¬ z_bg (z_wx f t m a) := by
  have x := z_qx0 h e z_wd14 rfl
  have y := (z_loI h3 hr).2.1 (by decide)
  refine ⟨z_qF h2 e2, fun s => ?_⟩
  unfold z_bg at s
  omega
end
def z_k9 (v : Int32) : Nat := if v = 20 then 0 else if v = 21 then 1 else if v = 22 then 2 else 3
theorem z_k9a : z_k9 20 = 0 := by decide
theorem z_k9b : z_k9 21 = 1 := by decide
theorem z_k9c : z_k9 22 = 2 := by decide
theorem z_k9d : z_k9 23 = 3 := by decide
def z_gL (g : Nat → Int32) : Nat → List Nat
  | 0 => []
  | n + 1 => z_k9 (g n) :: z_gL g n
def z_G9 (g : Nat → Int32) (n : Int32) : List Nat := z_gL g n.toNatClampNeg
theorem z_gLu {g : Nat → Int32} {v : Int32} {j : Nat} : ∀ {n : Nat}, n ≤ j → z_gL (upd g j v) n = z_gL g n
  | 0, _ => rfl
  | n + 1, h => by
    have e : upd g j v n = g n := z_updN (by omega)
    show z_k9 (upd g j v n) :: z_gL (upd g j v) n = z_k9 (g n) :: z_gL g n
    rw [z_gLu (by omega), e]
theorem z_G0 {g : Nat → Int32} {n : Int32} (h : n.toInt ≤ 0) : z_G9 g n = [] := by
  have e : n.toNatClampNeg = 0 := by rw [z_tnc]; omega
  unfold z_G9
  rw [e] <;> rfl
theorem z_GS {g : Nat → Int32} {n y : Int32} (ty : y.toInt = n.toInt + -1) (hy : 0 ≤ y.toInt) : z_G9 g n = z_k9 (g y.toNatClampNeg) :: z_G9 g y := by
  have e : n.toNatClampNeg = y.toNatClampNeg + 1 := by rw [z_tnc, z_tnc]; omega
  unfold z_G9
  rw [e] <;> rfl
theorem z_Gpsh {g g' : Nat → Int32} {n n' x : Int32} (hn : 0 ≤ n.toInt) (tn : n'.toInt = n.toInt + 1) (e : upd g n.toNatClampNeg x = g') : z_G9 g' n' = z_k9 x :: z_G9 g n := by
  have e1 : n'.toNatClampNeg = n.toNatClampNeg + 1 := by rw [z_tnc, z_tnc]; omega
  unfold z_G9
  rw [e1, ← e]
  show z_k9 (upd g n.toNatClampNeg x n.toNatClampNeg) :: z_gL (upd g n.toNatClampNeg x) n.toNatClampNeg = _
  rw [z_updE rfl, z_gLu (Nat.le_refl _)]
def z_dpt (g : Nat → Int32) (n d : Int32) : Prop := d.toInt = 1 + (z_kt (z_G9 g n) : Int)
section
variable {g g' : Nat → Int32} {n n0 n1 y v x d d' o : Int32}
theorem z_dpt0 (h : n = 0) (hd : d = 1) : z_dpt g n d := by
  unfold z_dpt
  rw [h, hd, z_G0 (by decide)] <;> decide
theorem z_dptK {l h : Int} (hI : z_dpt g n d) (hd : z_in l h d) : 1 ≤ d.toInt := by
  unfold z_dpt at hI
  omega
theorem z_dptP (hI : z_dpt g n d) (hn : 0 ≤ n.toInt) (tn : y.toInt = n.toInt + 1) (e : upd g n.toNatClampNeg x = g') (hx : decide (¬ x = 21 ∧ ¬ x = 22) = true) (td : d'.toInt = d.toInt + 1) : z_dpt g' y d' := by
  have hx := of_decide_eq_true hx
  unfold z_dpt at hI ⊢
  have q : ¬ (z_k9 x = 1 ∨ z_k9 x = 2) := by
    unfold z_k9
    by_cases c : x = 20
    · rw [if_pos c] <;> omega
    · rw [if_neg c, if_neg hx.1, if_neg hx.2] <;> omega
  rw [z_Gpsh hn tn e, z_ktN q] <;> omega
theorem z_dptA (hI : z_dpt g n d) (hn : 0 ≤ n.toInt) (tn : y.toInt = n.toInt + 1) (e : upd g n.toNatClampNeg x = g') (hx : decide (x = 21 ∨ x = 22) = true) : z_dpt g' y d := by
  have hx := of_decide_eq_true hx
  unfold z_dpt at hI ⊢
  have q : z_k9 x = 1 ∨ z_k9 x = 2 := by
    rcases hx with c | c
    · rw [c]
      exact Or.inl z_k9b
    · rw [c]
      exact Or.inr z_k9c
  rw [z_Gpsh hn tn e, z_ktJ q]
  exact hI
theorem z_k9T (hv : z_in 20 20 v) : z_k9 v = 0 := by
  have e : v = 20 := z_eqk hv rfl
  rw [e]
  exact z_k9a
theorem z_k9J (hv : z_in 21 22 v) : z_k9 v = 1 ∨ z_k9 v = 2 := by
  have h1 := hv.1
  have h2 := hv.2
  have c : v.toInt = 21 ∨ v.toInt = 22 := by omega
  rcases c with c | c
  · have e : v = 21 := Int32.toInt_inj.mp (c.trans (by decide))
    rw [e]
    exact Or.inl z_k9b
  · have e : v = 22 := Int32.toInt_inj.mp (c.trans (by decide))
    rw [e]
    exact Or.inr z_k9c
theorem z_dptN (hI : z_dpt g n d) (ty : y.toInt = n.toInt + -1) (hy : 0 ≤ y.toInt) (ev : v = g y.toNatClampNeg) (hv : z_in 20 20 v) (ed : d' = d - 1) : z_dpt g y d' := by
  unfold z_dpt at hI ⊢
  have q := z_k9T hv
  rw [ev] at q
  rw [z_GS ty hy, z_ktN (by omega)] at hI
  have b := (z_any d).2
  have s := z_subT (x := d) (y := 1) (a := 1) (b := 2147483647) (c := 1) (d := 1) ⟨by omega, b⟩ ⟨by decide, by decide⟩ rfl
  have e1 : (1 : Int32).toInt = 1 := rfl
  rw [ed, s, e1] <;> omega
theorem z_dptJ (hI : z_dpt g n d) (ty : y.toInt = n.toInt + -1) (hy : 0 ≤ y.toInt) (ev : v = g y.toNatClampNeg) (hv : z_in 21 22 v) : z_dpt g y d := by
  unfold z_dpt at hI ⊢
  have q := z_k9J hv
  rw [ev] at q
  rw [z_GS ty hy, z_ktJ q] at hI
  exact hI
theorem z_dptQ {K : List Nat} (hI : z_dpt g n d) (hd : z_G9 g n = z_dj 2 K) (ty : y.toInt = n.toInt + -1) (hy : 0 ≤ y.toInt) (ed : d' = d - 1) : z_dpt g y d' := by
  unfold z_dpt at hI ⊢
  have e := z_GS (g := g) ty hy
  rcases z_djH K with ⟨q, -⟩ | ⟨u, M, q, q2⟩
  · rw [q, e] at hd
    cases hd
  · have k := (z_djB 2 K).1
    rw [e, q] at hd
    have eM : z_G9 g y = M := (List.cons.inj hd).2
    rw [← e] at hd
    rw [hd, ← q, k, q2, ← eM] at hI
    have b := (z_any d).2
    have s := z_subT (x := d) (y := 1) (a := 1) (b := 2147483647) (c := 1) (d := 1) ⟨by omega, b⟩ ⟨by decide, by decide⟩ rfl
    have e1 : (1 : Int32).toInt = 1 := rfl
    rw [ed, s, e1] <;> omega
def z_dnM (g : Nat → Int32) (n n' : Int32) : Prop := z_G9 g n' = z_dn (z_G9 g n)
def z_dnJ (g : Nat → Int32) (n n' : Int32) : Prop := z_dn (z_G9 g n') = z_dn (z_G9 g n)
theorem z_dnJr : z_dnJ g n n := rfl
theorem z_dnJS (hI : z_dnJ g n0 n) (ty : y.toInt = n.toInt + -1) (hy : 0 ≤ y.toInt) (ev : v = g y.toNatClampNeg) (hv : z_in 20 20 v) : z_dnJ g n0 y := by
  unfold z_dnJ at hI ⊢
  have q := z_k9T hv
  rw [ev] at q
  rw [← hI, z_GS ty hy, z_dnT q]
theorem z_dnM0 (hI : z_dnJ g n0 n) (h : n.toInt ≤ 0) : z_dnM g n0 n := by
  unfold z_dnJ at hI
  unfold z_dnM
  rw [← hI, z_G0 h] <;> rfl
theorem z_dnMN (hI : z_dnJ g n0 n) (ty : y.toInt = n.toInt + -1) (hy : 0 ≤ y.toInt) (ev : v = g y.toNatClampNeg) (hv : ¬ v = 20) : z_dnM g n0 n := by
  unfold z_dnJ at hI
  unfold z_dnM
  have q : ¬ z_k9 (g y.toNatClampNeg) = 0 := by
    rw [← ev]
    unfold z_k9
    rw [if_neg hv]
    split
    · decide
    · split <;> decide
  rw [← hI, z_GS ty hy, z_dnF q]
def z_djM (k : Nat) (g : Nat → Int32) (n n' : Int32) : Prop := z_G9 g n' = z_dj k (z_G9 g n)
def z_djJ (k : Nat) (g : Nat → Int32) (n n' : Int32) : Prop := z_dj k (z_G9 g n') = z_dj k (z_G9 g n)
theorem z_djJr {k : Nat} : z_djJ k g n n := rfl
theorem z_djJA {k : Nat} (hI : z_djJ k g n0 n) (ty : y.toInt = n.toInt + -1) (hy : 0 ≤ y.toInt) (ev : v = g y.toNatClampNeg) (hv : z_in 21 21 v) : z_djJ k g n0 y := by
  unfold z_djJ at hI ⊢
  have e : v = 21 := z_eqk hv rfl
  rw [ev] at e
  rw [← hI, z_GS ty hy, z_djT (Or.inl (by rw [e]; exact z_k9b))]
theorem z_djJ2 (hI : z_djJ 2 g n0 n) (ty : y.toInt = n.toInt + -1) (hy : 0 ≤ y.toInt) (ev : v = g y.toNatClampNeg) (hv : z_in 21 22 v) : z_djJ 2 g n0 y := by
  unfold z_djJ at hI ⊢
  have q := z_k9J hv
  rw [ev] at q
  rw [← hI, z_GS ty hy, z_djT (by omega)]
theorem z_djM0 {k : Nat} (hI : z_djJ k g n0 n) (h : n.toInt ≤ 0) : z_djM k g n0 n := by
  unfold z_djJ at hI
  unfold z_djM
  rw [← hI, z_G0 h] <;> rfl
theorem z_k9n1 (h : ¬ v = 21) : ¬ z_k9 v = 1 := by
  unfold z_k9
  by_cases c : v = 20
  · rw [if_pos c]
    decide
  · rw [if_neg c, if_neg h]
    by_cases d : v = 22
    · rw [if_pos d]
      decide
    · rw [if_neg d]
      decide
theorem z_k9n2 (h : ¬ v = 22) : ¬ z_k9 v = 2 := by
  unfold z_k9
  by_cases c : v = 20
  · rw [if_pos c]
    decide
  · rw [if_neg c]
    by_cases d : v = 21
    · rw [if_pos d]
      decide
    · rw [if_neg d, if_neg h]
      decide
theorem z_djM1 (hI : z_djJ 1 g n0 n) (ty : y.toInt = n.toInt + -1) (hy : 0 ≤ y.toInt) (ev : v = g y.toNatClampNeg) (h21 : ¬ v = 21) : z_djM 1 g n0 n := by
  unfold z_djJ at hI
  unfold z_djM
  have q := z_k9n1 h21
  rw [ev] at q
  rw [← hI, z_GS ty hy, z_djF (by omega)]
theorem z_djM2 (hI : z_djJ 2 g n0 n) (ty : y.toInt = n.toInt + -1) (hy : 0 ≤ y.toInt) (ev : v = g y.toNatClampNeg) (h21 : ¬ v = 21) (h22 : ¬ v = 22) : z_djM 2 g n0 n := by
  unfold z_djJ at hI
  unfold z_djM
  have q := z_k9n1 h21
  have q2 := z_k9n2 h22
  rw [ev] at q q2
  rw [← hI, z_GS ty hy, z_djF (by omega)]
end
def z_kM (g : Nat → Int32) (n wh : Int32) : List Nat := if wh = 1 then z_dn (z_G9 g n) else z_G9 g n
def z_wo (wh : Int32) : Int32 := if wh = 1 then 0 else 1
noncomputable def z_P0 (nm : Nat → Int64) (s : Nat → Int32) : List Int64 := z_mls nm 0 (s 0)
noncomputable def z_U0 (nm : Nat → Int64) (s : Nat → Int32) : List Int64 := z_mls nm 12 (s 3)
def z_OM (r : Int32) (f : Nat → Int32) (t m : Int32) (nm : Nat → Int64) (s : Nat → Int32) (o : Int32) (g : Nat → Int32) (n a o' : Int32) (g' : Nat → Int32) (n' wh' a' F G : Int32) : Prop := (r = 1 ∧ z_z0 F ∧ z_fOn f t m (z_P0 nm s) (z_U0 nm s) o (z_G9 g n) a = .inr ((o', z_kM g' n' wh', z_wo wh'), a')) ∨ (r = 0 ∧ z_fOn f t m (z_P0 nm s) (z_U0 nm s) o (z_G9 g n) a = .inl (F, G))
section
variable {f s g g' : Nat → Int32} {nm : Nat → Int64} {t m a a1 a2 a3 a' r q q1 q2 q3 x F G F1 G1 o o' n n' n1 n2 n3 d wh wh' k v b y got lf k1 v1 b1 : Int32} {w w1 : Int64} {c9 : Nat}
theorem z_OM1 (hr : r = 0) (h : z_qW q f t m a 7237492) (e : q = 0) (h2 : z_SS q1 f t m a 40) (e2 : q1 = 0) (h3 : z_lo lf f t m a) (hl : z_in (-1) (-1) lf) (hf : z_fa F G 1 a) : z_OM r f t m nm s o g n a o' g' n' wh' a' F G := by
  refine Or.inr ⟨hr, ?_⟩
  unfold z_fOn
  rw [z_ifT (z_stn h e h2 e2 h3 hl), hf.1, hf.2]
theorem z_OM4a (hr : r = 0) (hs : z_st9 f t m a) (ho : z_in 20 20 o) (hf : z_fa F G 4 a) : z_OM r f t m nm s o g n a o' g' n' wh' a' F G := by
  have o1 := ho.1
  refine Or.inr ⟨hr, ?_⟩
  unfold z_fOn
  rw [z_ifF hs, z_ifT (Or.inl (show 20 ≤ o.toInt from o1)), hf.1, hf.2]
theorem z_OM4b (hr : r = 0) (hs : z_st9 f t m a) (hd : z_dpt g n d) (h8 : (8 : Int32) < d) (hf : z_fa F G 4 a) : z_OM r f t m nm s o g n a o' g' n' wh' a' F G := by
  have h8 := Int32.lt_iff_toInt_lt.mp h8
  have e8 : (8 : Int32).toInt = 8 := rfl
  unfold z_dpt at hd
  refine Or.inr ⟨hr, ?_⟩
  unfold z_fOn
  rw [z_ifF hs, z_ifT (Or.inr (show 8 ≤ z_kt (z_G9 g n) by omega)), hf.1, hf.2]
theorem z_OMn (ho : z_in 0 19 o) (hd : z_dpt g n d) (h8 : d ≤ (8 : Int32)) : ¬ (20 ≤ o.toInt ∨ 8 ≤ z_kt (z_G9 g n)) := by
  have h8 := Int32.le_iff_toInt_le.mp h8
  have e8 : (8 : Int32).toInt = 8 := rfl
  have o2 := ho.2
  unfold z_dpt at hd
  omega
theorem z_kMo : z_kM g' n' 0 = z_G9 g' n' := if_neg (by decide)
theorem z_kMw : z_kM g' n' 1 = z_dn (z_G9 g' n') := if_pos rfl
theorem z_woo : z_wo 0 = 1 := rfl
theorem z_wo1 : z_wo 1 = 0 := rfl
theorem z_OMb (hr : r = 1) (h : z_qW q f t m a 7237492) (e : q = 0) (h2 : z_SS q1 f t m a 40) (e2 : q1 = 1) (ho : z_in 0 19 o) (hd : z_dpt g n d) (h8 : d ≤ (8 : Int32)) (hs : z_SA f t m a a1) (eo : o' = o + 1) (hn : 0 ≤ n.toInt) (tn : n'.toInt = n.toInt + 1) (eg : upd g n.toNatClampNeg 23 = g') (hw : wh = 0) (hF : z_z0 F) : z_OM r f t m nm s o g n a o' g' n' wh a1 F G := by
  refine Or.inl ⟨hr, hF, ?_⟩
  rw [hw, z_kMo, z_woo, z_Gpsh hn tn eg, z_k9d]
  unfold z_fOn
  rw [z_ifF (z_st9S h2 e2), z_ifF (z_OMn ho hd h8), z_ifT (z_qT h2 e2), z_nxtE hs, eo] <;> rfl
theorem z_OMt (hr : r = 1) (h : z_qW q f t m a 7237492) (e : q = 1) (ho : z_in 0 19 o) (hd : z_dpt g n d) (h8 : d ≤ (8 : Int32)) (hs : z_SA f t m a a1) (eo : o' = o + 1) (hn : 0 ≤ n.toInt) (tn : n'.toInt = n.toInt + 1) (eg : upd g n.toNatClampNeg 20 = g') (hw : wh = 0) (hF : z_z0 F) : z_OM r f t m nm s o g n a o' g' n' wh a1 F G := by
  have x14 := z_qx1 h e z_wd14 rfl
  refine Or.inl ⟨hr, hF, ?_⟩
  rw [hw, z_kMo, z_woo, z_Gpsh hn tn eg, z_k9a]
  unfold z_fOn
  rw [z_ifF (z_stN h e), z_ifF (z_OMn ho hd h8), z_ifF (z_wxN (by decide) x14 40), z_ifT x14, z_nxtE hs, eo] <;> rfl
def z_LM9 (r : Int32) (f : Nat → Int32) (t m : Int32) (nm : Nat → Int64) (s : Nat → Int32) (a a1 a' F G : Int32) : Prop := (r = 1 ∧ z_z0 F ∧ z_fLw f t m (z_P0 nm s) (z_U0 nm s) (z_wx f t m a) a1 = .inr a') ∨ (r = 0 ∧ z_fLw f t m (z_P0 nm s) (z_U0 nm s) (z_wx f t m a) a1 = .inl (F, G))
theorem z_OMl0 (hr : r = 0) (h : z_qW q f t m a 7237492) (e : q = 0) (h2 : z_SS q1 f t m a 40) (e2 : q1 = 0) (hb : z_st9 f t m a) (ho : z_in 0 19 o) (hd : z_dpt g n d) (h8 : d ≤ (8 : Int32)) (hs : z_SA f t m a a1) (hl : z_LM9 0 f t m nm s a a1 a1 F G) : z_OM r f t m nm s o g n a o' g' n' wh' a' F G := by
  refine Or.inr ⟨hr, ?_⟩
  unfold z_fOn
  rw [z_ifF hb, z_ifF (z_OMn ho hd h8), z_ifF (z_qF h2 e2), z_ifF (z_qx0 h e z_wd14 rfl), z_nxtE hs]
  refine z_bdL ?_
  rcases hl with ⟨s, -⟩ | ⟨-, s⟩
  · exact absurd s (by decide)
  · exact s
theorem z_OMl1 (hr : r = 1) (h : z_qW q f t m a 7237492) (e : q = 0) (h2 : z_SS q1 f t m a 40) (e2 : q1 = 0) (hb : z_st9 f t m a) (ho : z_in 0 19 o) (hd : z_dpt g n d) (h8 : d ≤ (8 : Int32)) (hs : z_SA f t m a a1) (hl : z_LM9 1 f t m nm s a a1 a2 F G) (eo : o' = o + 1) (hw : wh = 1) : z_OM r f t m nm s o g n a o' g n wh a2 F G := by
  rcases hl with ⟨-, hF, s⟩ | ⟨s, -⟩
  · refine Or.inl ⟨hr, hF, ?_⟩
    rw [hw, z_kMw, z_wo1]
    unfold z_fOn
    rw [z_ifF hb, z_ifF (z_OMn ho hd h8), z_ifF (z_qF h2 e2), z_ifF (z_qx0 h e z_wd14 rfl), z_nxtE hs, z_bdR s, eo]
  · exact absurd s (by decide)
theorem z_LMp (h : z_lo lf f t m a) (hl : z_in 0 2 lf) (hF : z_z0 F) : z_LM9 1 f t m nm s a a1 a1 F G := by
  have c := (z_loI h hl).2.2.1 (by decide) (by decide)
  refine Or.inl ⟨rfl, hF, ?_⟩
  unfold z_fLw
  rw [z_ifF (by omega), z_ifF (by omega), z_ifF (by omega)]
theorem z_KmL (h : z_Km q got f t m a nm c9 n F G) (e : q = 0) : z_fKn f t m (z_mls nm c9 n) a = .inl (F, G) := h.elim (fun q => by rw [e] at q; exact absurd q.1 (by decide)) (fun q => q.2)
theorem z_KmR (h : z_Km q got f t m a nm c9 n F G) (e : q = 1) : z_fKn f t m (z_mls nm c9 n) a = .inr got := h.elim (fun q => q.2.2.2) (fun q => by rw [e] at q; exact absurd q.1 (by decide))
theorem z_nsK (h : z_Km q got f t m a nm c9 n F G) (e : q = 1) : z_ns t m a := z_KnS (z_KmR h e)
theorem z_LM17 (h : z_lo lf f t m a) (hl : z_in 3 3 lf) (hk : z_Km q got f t m a1 nm 0 n F G) (e : q = 0) (en : n = s (0 : Int32).toNatClampNeg) : z_LM9 0 f t m nm s a a1 a' F G := by
  have c := (z_loI h hl).2.2.2.1 rfl rfl
  have en : n = s 0 := en
  rw [en] at hk
  refine Or.inr ⟨rfl, ?_⟩
  unfold z_fLw
  rw [z_ifT c]
  exact z_bdL (z_bdL (z_KmL hk e))
theorem z_LM17s (h : z_lo lf f t m a) (hl : z_in 3 3 lf) (hk : z_Km q got f t m a1 nm 0 n F1 G1) (e : q = 1) (en : n = s (0 : Int32).toNatClampNeg) (hs : z_SA f t m a1 a2) (hF : z_z0 F) : z_LM9 1 f t m nm s a a1 a2 F G := by
  have c := (z_loI h hl).2.2.2.1 rfl rfl
  have en : n = s 0 := en
  rw [en] at hk
  refine Or.inl ⟨rfl, hF, ?_⟩
  unfold z_fLw z_fPk
  rw [z_ifT c]
  have k : z_fKn f t m (z_P0 nm s) a1 = .inr got := z_KmR hk e
  rw [k, z_nxtE hs] <;> rfl
theorem z_LM18 (h : z_lo lf f t m a) (hl : z_in 4 4 lf) (hk : z_Km q got f t m a1 nm 12 n F G) (e : q = 0) (en : n = s (3 : Int32).toNatClampNeg) : z_LM9 0 f t m nm s a a1 a' F G := by
  have c := (z_loI h hl).2.2.2.2.1 rfl rfl
  have en : n = s 3 := en
  rw [en] at hk
  refine Or.inr ⟨rfl, ?_⟩
  unfold z_fLw
  rw [z_ifF (by omega), z_ifT c]
  exact z_bdL (z_bdL (z_KmL hk e))
theorem z_LM18s (h : z_lo lf f t m a) (hl : z_in 4 4 lf) (hk : z_Km q got f t m a1 nm 12 n F1 G1) (e : q = 1) (en : n = s (3 : Int32).toNatClampNeg) (hs : z_SA f t m a1 a2) (hF : z_z0 F) : z_LM9 1 f t m nm s a a1 a2 F G := by
  have c := (z_loI h hl).2.2.2.2.1 rfl rfl
  have en : n = s 3 := en
  rw [en] at hk
  refine Or.inl ⟨rfl, hF, ?_⟩
  unfold z_fLw z_fPk
  rw [z_ifF (by omega), z_ifT c]
  have k : z_fKn f t m (z_U0 nm s) a1 = .inr got := z_KmR hk e
  rw [k, z_nxtE hs] <;> rfl
theorem z_CqM (h : z_mt f t m k a v w b) (hk : k = 3) (hv : z_in 60 62 v) : z_Cq 1 f t m a := by
  have s := z_mt3 h hk
  have v1 := hv.1
  have v2 := hv.2
  have c : v.toInt = 60 ∨ v.toInt = 61 ∨ v.toInt = 62 := by omega
  refine Or.inl ⟨rfl, ?_⟩
  rcases c with c | c | c
  · have e : v = 60 := Int32.toInt_inj.mp (c.trans (by decide))
    rw [e] at s
    exact Or.inl s
  · have e : v = 61 := Int32.toInt_inj.mp (c.trans (by decide))
    rw [e] at s
    exact Or.inr (Or.inl s)
  · have e : v = 62 := Int32.toInt_inj.mp (c.trans (by decide))
    rw [e] at s
    exact Or.inr (Or.inr s)
theorem z_CqK (h : z_mt f t m k a v w b) (hk : ¬ k = 3) : z_Cq 0 f t m a := Or.inr ⟨rfl, fun s => s.elim (z_mt3n h hk 60) (fun s => s.elim (z_mt3n h hk 61) (z_mt3n h hk 62))⟩
theorem z_CqV (h : z_mt f t m k a v w b) (hk : k = 3) (hv : ¬ z_in 60 62 v) : z_Cq 0 f t m a := by
  have s := (z_mt3 h hk).2.1
  have q : ∀ x : Int32, z_TS f t m a x → z_in 60 62 x → False := fun x hx hi => hv (by
    have e : v = x := s.symm.trans hx.2.1
    rw [e]
    exact hi)
  refine Or.inr ⟨rfl, fun s => ?_⟩
  rcases s with s | s | s
  · exact q 60 s ⟨by decide, by decide⟩
  · exact q 61 s ⟨by decide, by decide⟩
  · exact q 62 s ⟨by decide, by decide⟩
theorem z_CqVl {l : Int} (h : z_mt f t m k a v w b) (hk : k = 3) (hv : z_in l 59 v) : z_Cq 0 f t m a := z_CqV h hk (fun s => by have := s.1; have := hv.2; omega)
theorem z_CqVh {l : Int} (h : z_mt f t m k a v w b) (hk : k = 3) (hv : z_in 63 l v) : z_Cq 0 f t m a := z_CqV h hk (fun s => by have := s.2; have := hv.1; omega)
theorem z_CmM2 (hr : r = 0) (h : z_Cq q f t m a) (e : q = 1) (hs : z_SA f t m a a1) (hm : z_mt f t m k1 a1 v1 w1 b1) (hk : ¬ k1 = 2) (hf : z_fa F G 1 a1) : z_Cm r f t m a a' F G := by
  refine Or.inr ⟨hr, ?_⟩
  unfold z_fCp z_fNu
  rw [z_ifT (z_qT h e), z_nxtE hs, z_ifF (z_mt2n hm hk), hf.1, hf.2] <;> rfl
theorem z_CmM3 (hr : r = 1) (h : z_Cq q f t m a) (e : q = 1) (hs : z_SA f t m a a1) (hm : z_mt f t m k1 a1 v1 w1 b1) (hk : k1 = 2) (hs2 : z_SA f t m a1 a2) (hF : z_z0 F) : z_Cm r f t m a a2 F G := by
  have n := z_mt2 hm hk
  have b := z_TNR n
  refine Or.inl ⟨hr, hF, ?_⟩
  unfold z_fCp z_fNu
  rw [z_ifT (z_qT h e), z_nxtE hs, z_ifT ⟨v1, n⟩, z_numE n, z_ifT (show (0 : Int32).toInt ≤ v1.toInt ∧ v1.toInt ≤ (999 : Int32).toInt from b), z_nxtE hs2] <;> rfl
theorem z_nsG (hm : z_mt f t m k1 a1 v1 w1 b1) (hk : k1 = 3) : z_ns t m a1 := (z_mt3 hm hk).1
theorem z_nsN (hm : z_mt f t m k1 a1 v1 w1 b1) (hk : k1 = 2) : z_ns t m a1 := (z_mt2 hm hk).1
theorem z_LMc (h : z_lo lf f t m a) (hl : z_in 5 7 lf) (hc : z_Cm r f t m a1 a' F G) : z_LM9 r f t m nm s a a1 a' F G := by
  have c := (z_loI h hl).2.2.2.2.2 (by decide)
  have eq : z_fLw f t m (z_P0 nm s) (z_U0 nm s) (z_wx f t m a) a1 = z_fCp f t m a1 := by
    unfold z_fLw
    rw [z_ifF (by omega), z_ifF (by omega), z_ifT c]
  rcases hc with ⟨x, y, z⟩ | ⟨x, y⟩
  · exact Or.inl ⟨x, y, eq.trans z⟩
  · exact Or.inr ⟨x, eq.trans y⟩
theorem z_nsLo {hi : Int} (h : z_lo lf f t m a) (hl : z_in 0 hi lf) : z_ns t m a := (z_wxT (f := f) (t := t) (m := m) (a := a) (by have := (z_loI h hl).1 (Int.le_refl _); omega) rfl).1
theorem z_ns14 (h : z_qW q f t m a 7237492) (e : q = 1) : z_ns t m a := z_nsQ h e z_wd14
theorem z_OMF (hl : z_OM q f t m nm s o g n a o' g' n' wh' a' F G) (e2 : q = 1) : z_z0 F := hl.elim (fun s => s.2.1) (fun s => by rw [e2] at s; exact absurd s.1 (by decide))
def z_BM (r : Int32) (f : Nat → Int32) (t m o : Int32) (g : Nat → Int32) (n a o' : Int32) (g' : Nat → Int32) (n' wh' a' F G : Int32) : Prop := (r = 1 ∧ z_z0 F ∧ z_fJt f t m o (z_dn (z_G9 g n)) a = .inr ((o', z_kM g' n' wh', z_wo wh'), a')) ∨ (r = 0 ∧ z_fJt f t m o (z_dn (z_G9 g n)) a = .inl (F, G))
theorem z_BMA (hr : r = 1) (hn : z_dnM g n n1) (h : z_qW q f t m a 6385252) (e : q = 1) (hj : z_djM 1 g n1 n2) (h0 : 0 ≤ n2.toInt) (tn : n'.toInt = n2.toInt + 1) (eg : upd g n2.toNatClampNeg 21 = g') (hs : z_SA f t m a a1) (hw : wh = 0) (hF : z_z0 F) : z_BM r f t m o g n a o g' n' wh a1 F G := by
  have hn : z_G9 g n1 = z_dn (z_G9 g n) := hn
  have hj : z_G9 g n2 = z_dj 1 (z_G9 g n1) := hj
  refine Or.inl ⟨hr, hF, ?_⟩
  rw [hw, z_kMo, z_woo, z_Gpsh h0 tn eg, z_k9b, hj, hn]
  unfold z_fJt
  rw [z_ifT (z_qx1 h e z_wd13 rfl), z_nxtE hs] <;> rfl
theorem z_BMO (hr : r = 1) (hn : z_dnM g n n1) (h1 : z_qW q1 f t m a 6385252) (e1 : q1 = 0) (h : z_qW q f t m a 28530) (e : q = 1) (hj : z_djM 2 g n1 n2) (h0 : 0 ≤ n2.toInt) (tn : n'.toInt = n2.toInt + 1) (eg : upd g n2.toNatClampNeg 22 = g') (hs : z_SA f t m a a1) (hw : wh = 0) (hF : z_z0 F) : z_BM r f t m o g n a o g' n' wh a1 F G := by
  have hn : z_G9 g n1 = z_dn (z_G9 g n) := hn
  have hj : z_G9 g n2 = z_dj 2 (z_G9 g n1) := hj
  refine Or.inl ⟨hr, hF, ?_⟩
  rw [hw, z_kMo, z_woo, z_Gpsh h0 tn eg, z_k9c, hj, hn]
  unfold z_fJt
  rw [z_ifF (z_qx0 h1 e1 z_wd13 rfl), z_ifT (z_qx1 h e z_wd12 rfl), z_nxtE hs] <;> rfl
theorem z_BM1 (hr : r = 0) (hn : z_dnM g n n1) (h1 : z_qW q1 f t m a 6385252) (e1 : q1 = 0) (h2 : z_qW q2 f t m a 28530) (e2 : q2 = 0) (h : z_SS q f t m a 41) (e : q = 0) (hf : z_fa F G 1 a) : z_BM r f t m o g n a o' g' n' wh' a' F G := by
  refine Or.inr ⟨hr, ?_⟩
  unfold z_fJt z_fSg
  rw [z_ifF (z_qx0 h1 e1 z_wd13 rfl), z_ifF (z_qx0 h2 e2 z_wd12 rfl), z_ifF (z_qF h e), hf.1, hf.2]
  by_cases c : z_kt (z_dn (z_G9 g n)) = 0
  · rw [z_ifT c]
  · rw [z_ifF c] <;> rfl
theorem z_ktG (hn : z_dnM g n n1) (hj : z_djM 2 g n1 n2) (h0 : n2.toInt ≤ 0) : z_kt (z_dn (z_G9 g n)) = 0 := by
  have hn : z_G9 g n1 = z_dn (z_G9 g n) := hn
  have hj : z_G9 g n2 = z_dj 2 (z_G9 g n1) := hj
  rw [z_G0 h0, hn] at hj
  have k := (z_djB 2 (z_dn (z_G9 g n))).1
  rw [← hj] at k
  exact k.symm
theorem z_BM2 (hr : r = 0) (hn : z_dnM g n n1) (h1 : z_qW q1 f t m a 6385252) (e1 : q1 = 0) (h2 : z_qW q2 f t m a 28530) (e2 : q2 = 0) (hj : z_djM 2 g n1 n2) (h0 : z_in 0 0 n2) (hf : z_fa F G 1 a) : z_BM r f t m o g n a o' g' n' wh' a' F G := by
  refine Or.inr ⟨hr, ?_⟩
  unfold z_fJt
  rw [z_ifF (z_qx0 h1 e1 z_wd13 rfl), z_ifF (z_qx0 h2 e2 z_wd12 rfl), z_ifT (z_ktG hn hj h0.2), hf.1, hf.2]
theorem z_BMc (hr : r = 1) (hn : z_dnM g n n1) (h1 : z_qW q1 f t m a 6385252) (e1 : q1 = 0) (h2 : z_qW q2 f t m a 28530) (e2 : q2 = 0) (hj : z_djM 2 g n1 n2) (ty : n'.toInt = n2.toInt + -1) (hy : 0 ≤ n'.toInt) (h : z_SS q f t m a 41) (e : q = 1) (hs : z_SA f t m a a1) (hw : wh = 1) (hF : z_z0 F) : z_BM r f t m o g n a o g n' wh a1 F G := by
  have hn : z_G9 g n1 = z_dn (z_G9 g n) := hn
  have hj : z_G9 g n2 = z_dj 2 (z_G9 g n1) := hj
  rw [hn, z_GS ty hy] at hj
  have k : ¬ z_kt (z_dn (z_G9 g n)) = 0 := by
    rcases z_djH (z_dn (z_G9 g n)) with ⟨q, -⟩ | ⟨u, M, -, q⟩
    · rw [q] at hj
      cases hj
    · omega
  have et : (z_dj 2 (z_dn (z_G9 g n))).tail = z_G9 g n' := (congrArg List.tail hj).symm
  refine Or.inl ⟨hr, hF, ?_⟩
  rw [hw, z_kMw, z_wo1]
  unfold z_fJt z_fSg
  rw [z_ifF (z_qx0 h1 e1 z_wd13 rfl), z_ifF (z_qx0 h2 e2 z_wd12 rfl), z_ifF k, z_ifT (z_qT h e), z_nxtE hs, et] <;> rfl
theorem z_BMF (hl : z_BM q f t m o g n a o' g' n' wh' a' F G) (e2 : q = 1) : z_z0 F := hl.elim (fun s => s.2.1) (fun s => by rw [e2] at s; exact absurd s.1 (by decide))
theorem z_ns13 (h : z_qW q f t m a 6385252) (e : q = 1) : z_ns t m a := z_nsQ h e z_wd13
theorem z_ns12 (h : z_qW q f t m a 28530) (e : q = 1) : z_ns t m a := z_nsQ h e z_wd12
def z_SM (go : Int32) (f : Nat → Int32) (t m : Int32) (nm : Nat → Int64) (s : Nat → Int32) (o : Int32) (g : Nat → Int32) (n wh a : Int32) : Prop := (go = 1 ∧ ∃ (a0 : Int32) (k : Nat), 0 ≤ a0.toInt ∧ z_Tx f t.toInt.toNat m.toInt.toNat 0 a0.toInt.toNat ∧ z_it (z_De t m) (z_fTn f t m (z_P0 nm s) (z_U0 nm s)) k ((0, [], 1), a0) ((o, z_kM g n wh, z_wo wh), a)) ∨ (go = 0 ∧ m = 200 ∧ ∃ (K : List Nat) (w a : Int32) (i : Nat), z_fSe f t (z_P0 nm s) (z_U0 nm s) (.inr (((o, K, w), a), i)))
theorem z_SM0 {p go : Int32} (hg : go = 1) (ho : o = 0) (hn : n = 0) (hw : wh = 0) (hp : z_z0 p) (hx : z_TX f t m p a) (hm : z_mt f t m k a v w b) : z_SM go f t m nm s o g n wh a := by
  have hp : p = 0 := hp
  subst hp
  refine Or.inl ⟨hg, a, 0, hm.1, hx, ?_⟩
  rw [ho, hn, hw, z_kMo, z_woo, z_G0 (show (0 : Int32).toInt ≤ 0 by decide)] <;> exact rfl
theorem z_SMg {go : Int32} (hI : z_SM go f t m nm s o g n wh a) (e : go = 1) : ∃ (a0 : Int32) (k : Nat), 0 ≤ a0.toInt ∧ z_Tx f t.toInt.toNat m.toInt.toNat 0 a0.toInt.toNat ∧ z_it (z_De t m) (z_fTn f t m (z_P0 nm s) (z_U0 nm s)) k ((0, [], 1), a0) ((o, z_kM g n wh, z_wo wh), a) := hI.elim (fun q => q.2) (fun q => by rw [e] at q; exact absurd q.1 (by decide))
theorem z_SMB {go go2 : Int32} (hg : go2 = 1) (hI : z_SM go f t m nm s o g n wh a) (e : go = 1) (hw : wh = 1) (hm : z_mt f t m k a v w b) (hk : ¬ k = 0) (ht : z_in 0 940 t) (h9 : z_in 0 940 m) (hl : z_BM q f t m o g n a o' g' n' wh' a' F G) (e2 : q = 1) : z_SM go2 f t m nm s o' g' n' wh' a' := by
  obtain ⟨a0, i, h0, h1, h3⟩ := z_SMg hI e
  have s := hl.elim (fun s => s.2.2) (fun s => by rw [e2] at s; exact absurd s.1 (by decide))
  rw [hw, z_kMw, z_wo1] at h3
  exact Or.inl ⟨hg, a0, i + 1, h0, h1, _, h3, fun d => z_mt0n hm hk ht h9 d.2.2, (z_fTnJ (by decide)).trans s⟩
theorem z_SMO {go go2 : Int32} (hg : go2 = 1) (hI : z_SM go f t m nm s o g n wh a) (e : go = 1) (hw : wh = 0) (hl : z_OM q f t m nm s o g n a o' g' n' wh' a' F G) (e2 : q = 1) : z_SM go2 f t m nm s o' g' n' wh' a' := by
  obtain ⟨a0, i, h0, h1, h3⟩ := z_SMg hI e
  have s := hl.elim (fun s => s.2.2) (fun s => by rw [e2] at s; exact absurd s.1 (by decide))
  rw [hw, z_kMo, z_woo] at h3
  exact Or.inl ⟨hg, a0, i + 1, h0, h1, _, h3, fun d => absurd (show (1 : Int32) = 0 from d.1) (by decide), (z_fTnO rfl).trans s⟩
theorem z_SME {go go2 : Int32} (hg : go2 = 0) (hI : z_SM go f t m nm s o g n wh a) (e : go = 1) (hw : wh = 1) (hm : z_mt f t m k a v w b) (hk : k = 0) (ht : z_in 0 940 t) (h9 : z_in 0 940 m) (q2 : z_sz m 200) (hn : z_dnM g n n1) (hj : z_djM 2 g n1 n2) (h0 : z_in 0 0 n2) : z_SM go2 f t m nm s o g n2 wh a := by
  have q2 : m = 200 := q2
  subst q2
  obtain ⟨a0, i, p0, p1, h3⟩ := z_SMg hI e
  refine Or.inr ⟨hg, rfl, z_kM g n wh, z_wo wh, a, i, a0, p0, p1, i, _, h3, Or.inl ⟨⟨?_, ?_, z_mt0 hm hk ht h9⟩, rfl⟩⟩
  · show z_wo wh = 0
    rw [hw] <;> rfl
  · show z_kt (z_kM g n wh) = 0
    rw [hw, z_kMw]
    exact z_ktG hn hj h0.2
theorem z_fSeM {t0 : Int32} (q1 : z_sz t t0) : t = t0 := q1
theorem z_SnM0 {go t0 : Int32} (hI : z_SM go f t m nm s o g n wh a) (e : go = 0) (q1 : z_sz t t0) (hr : r = o) : z_Sn r f t0 (z_P0 nm s) (z_U0 nm s) := by
  have q1 : t = t0 := q1
  subst q1
  rcases hI with ⟨q, -⟩ | ⟨-, -, K, w, a, i, q⟩
  · rw [e] at q
    exact absurd q (by decide)
  · rw [hr]
    exact Or.inl ⟨K, w, a, i, q⟩
theorem z_SnMB {go t0 : Int32} (hI : z_SM go f t m nm s o g n wh a) (e : go = 1) (hw : wh = 1) (hm : z_mt f t m k a v w b) (hk : ¬ k = 0) (ht : z_in 0 940 t) (h9 : z_in 0 940 m) (q2 : z_sz m 200) (q1 : z_sz t t0) (hl : z_BM q f t m o g n a o' g' n' wh' a' F G) (e2 : q = 0) (hr : r = -1 - G) : z_Sn r f t0 (z_P0 nm s) (z_U0 nm s) := by
  have q1 : t = t0 := q1
  have q2 : m = 200 := q2
  subst q1 q2
  obtain ⟨a0, i, h0, h1, h3⟩ := z_SMg hI e
  have s := hl.elim (fun s => by rw [e2] at s; exact absurd s.1 (by decide)) (fun s => s.2)
  rw [hw, z_kMw, z_wo1] at h3
  exact Or.inr ⟨F, G, hr, a0, h0, h1, i, _, h3, Or.inr ⟨fun d => z_mt0n hm hk ht h9 d.2.2, (F, G), (z_fTnJ (by decide)).trans s, rfl⟩⟩
theorem z_SnMO {go t0 : Int32} (hI : z_SM go f t m nm s o g n wh a) (e : go = 1) (hw : wh = 0) (q2 : z_sz m 200) (q1 : z_sz t t0) (hl : z_OM q f t m nm s o g n a o' g' n' wh' a' F G) (e2 : q = 0) (hr : r = -1 - G) : z_Sn r f t0 (z_P0 nm s) (z_U0 nm s) := by
  have q1 : t = t0 := q1
  have q2 : m = 200 := q2
  subst q1 q2
  obtain ⟨a0, i, h0, h1, h3⟩ := z_SMg hI e
  have s := hl.elim (fun s => by rw [e2] at s; exact absurd s.1 (by decide)) (fun s => s.2)
  rw [hw, z_kMo, z_woo] at h3
  exact Or.inr ⟨F, G, hr, a0, h0, h1, i, _, h3, Or.inr ⟨fun d => absurd (show (1 : Int32) = 0 from d.1) (by decide), (F, G), (z_fTnO rfl).trans s, rfl⟩⟩
theorem z_SnMX9 {go t0 : Int32} {l : Int} (hI : z_SM go f t m nm s o g n wh a) (e : go = 1) (hw : wh = 1) (hm : z_mt f t m k a v w b) (hk : k = 0) (ht : z_in 0 940 t) (h9 : z_in 0 940 m) (q2 : z_sz m 200) (q1 : z_sz t t0) (hn : z_dnM g n n1) (hj : z_djM 2 g n1 n2) (h0 : z_in 1 l n2) (hf : z_fa F G 1 a) : z_fSe f t0 (z_P0 nm s) (z_U0 nm s) (.inl (F, G)) := by
  have q1 : t = t0 := q1
  have q2 : m = 200 := q2
  subst q1 q2
  have n20 := h0.1
  have hn : z_G9 g n1 = z_dn (z_G9 g n) := hn
  have hj : z_G9 g n2 = z_dj 2 (z_G9 g n1) := hj
  have te := z_mt0 hm hk ht h9
  have kn : ¬ z_kt (z_dn (z_G9 g n)) = 0 := by
    obtain ⟨y, ty⟩ : ∃ y : Int32, y = n2 - 1 := ⟨_, rfl⟩
    have t9 := z_subT (x := n2) (y := 1) (a := 1) (b := 2147483647) (c := 1) (d := 1) ⟨n20, (z_any n2).2⟩ ⟨by decide, by decide⟩ rfl
    have e1 : (1 : Int32).toInt = 1 := rfl
    rw [hn, z_GS (n := n2) (y := y) (by rw [ty, t9, e1] <;> omega) (by rw [ty, t9, e1] <;> omega)] at hj
    rcases z_djH (z_dn (z_G9 g n)) with ⟨q, -⟩ | ⟨u, M, -, q⟩
    · rw [q] at hj
      cases hj
    · omega
  obtain ⟨a0, i, p0, p1, h3⟩ := z_SMg hI e
  have w0 : z_wx f t 200 a = 0 := z_wxE0 te
  have j0 : z_fJt f t 200 o (z_dn (z_G9 g n)) a = .inl (F, G) := by
    unfold z_fJt z_fSg
    rw [w0, z_ifF (show ¬ (0 : Nat) = 13 by decide), z_ifF (show ¬ (0 : Nat) = 12 by decide), z_ifF kn, z_ifF (z_TSE te 41), hf.1, hf.2] <;> rfl
  rw [hw, z_kMw, z_wo1] at h3
  exact ⟨a0, p0, p1, i, _, h3, Or.inr ⟨fun d => kn d.2.1, (F, G), (z_fTnJ (by decide)).trans j0, rfl⟩⟩
theorem z_SnMX {go t0 : Int32} {l : Int} (hI : z_SM go f t m nm s o g n wh a) (e : go = 1) (hw : wh = 1) (hm : z_mt f t m k a v w b) (hk : k = 0) (ht : z_in 0 940 t) (h9 : z_in 0 940 m) (q2 : z_sz m 200) (q1 : z_sz t t0) (hn : z_dnM g n n1) (hj : z_djM 2 g n1 n2) (h0 : z_in 1 l n2) (hf : z_fa F G 1 a) (hr : r = -1 - G) : z_Sn r f t0 (z_P0 nm s) (z_U0 nm s) := Or.inr ⟨F, G, hr, z_SnMX9 hI e hw hm hk ht h9 q2 q1 hn hj h0 hf⟩
end
noncomputable def z_mT3 (nm : Nat → Int64) (o : Nat) (g : Nat → Int32) (j : Nat) : z_NT := (z_mls nm o (g j), z_mls nm (o + 5) (g (j + 1)), z_mls nm (o + 12) (g (j + 3)))
def z_v3 (nm : Nat → Int64) (o : Nat) (g : Nat → Int32) (j : Nat) : Prop := z_vn nm o (g j) ∧ z_vn nm (o + 5) (g (j + 1)) ∧ z_vn nm (o + 12) (g (j + 3))
def z_b3 (g : Nat → Int32) (j : Nat) : Prop := z_in 0 5 (g j) ∧ z_in 0 7 (g (j + 1)) ∧ z_in 0 6 (g (j + 3))
theorem z_mlsQ {nm nm' : Nat → Int64} {o o' : Nat} {n n' : Int32} (e : n = n') (h : ∀ k : Nat, k < n.toInt.toNat → nm (o + k) = nm' (o' + k)) : z_mls nm o n = z_mls nm' o' n' := by
  subst e
  unfold z_mls
  apply List.map_congr_left
  intro k hk
  rw [h k (List.mem_range.mp hk)]
theorem z_vnQ {nm nm' : Nat → Int64} {o o' : Nat} {n n' : Int32} (e : n' = n) (h : ∀ k : Nat, k < n.toInt.toNat → nm (o + k) = nm' (o' + k)) (hv : z_vn nm o n) : z_vn nm' o' n' := by
  subst e
  intro k hk
  rw [← h k hk]
  exact hv k hk
theorem z_m3Q {nm nm' : Nat → Int64} {o o' j j' : Nat} {g g' : Nat → Int32} (b : z_b3 g j) (h : ∀ k : Nat, k < 18 → nm (o + k) = nm' (o' + k)) (e0 : g j = g' j') (e1 : g (j + 1) = g' (j' + 1)) (e3 : g (j + 3) = g' (j' + 3)) : z_mT3 nm o g j = z_mT3 nm' o' g' j' := by
  obtain ⟨b0, b1, b3⟩ := b
  have x0 := b0.1
  have y0 := b0.2
  have x1 := b1.1
  have y1 := b1.2
  have x3 := b3.1
  have y3 := b3.2
  unfold z_mT3
  rw [z_mlsQ (nm := nm) (nm' := nm') (o := o) (o' := o') e0 (fun k hk => h k (by omega)), z_mlsQ (nm := nm) (nm' := nm') (o := o + 5) (o' := o' + 5) e1 (fun k hk => by rw [Nat.add_assoc o 5 k, Nat.add_assoc o' 5 k]; exact h (5 + k) (by omega)), z_mlsQ (nm := nm) (nm' := nm') (o := o + 12) (o' := o' + 12) e3 (fun k hk => by rw [Nat.add_assoc o 12 k, Nat.add_assoc o' 12 k]; exact h (12 + k) (by omega))]
theorem z_v3Q {nm nm' : Nat → Int64} {o o' j j' : Nat} {g g' : Nat → Int32} (b : z_b3 g j) (h : ∀ k : Nat, k < 18 → nm (o + k) = nm' (o' + k)) (e0 : g' j' = g j) (e1 : g' (j' + 1) = g (j + 1)) (e3 : g' (j' + 3) = g (j + 3)) (hv : z_v3 nm o g j) : z_v3 nm' o' g' j' := by
  obtain ⟨b0, b1, b3⟩ := b
  have x0 := b0.1
  have y0 := b0.2
  have x1 := b1.1
  have y1 := b1.2
  have x3 := b3.1
  have y3 := b3.2
  refine ⟨z_vnQ e0 (fun k hk => h k (by omega)) hv.1, z_vnQ e1 (fun k hk => by rw [Nat.add_assoc o 5 k, Nat.add_assoc o' 5 k]; exact h (5 + k) (by omega)) hv.2.1, z_vnQ e3 (fun k hk => by rw [Nat.add_assoc o 12 k, Nat.add_assoc o' 12 k]; exact h (12 + k) (by omega)) hv.2.2⟩
section
variable {f g g' h s s' im im' : Nat → Int32} {nm nm' nm0 nm1 nk nk' : Nat → Int64} {t m n a b k v bb y r r1 r2 a1 a2 b' F G F1 G1 t0 i kk q x to : Int32} {w : Int64} {o j : Nat} {h' : Nat → Int32}
theorem z_b3I (b0 : z_in 0 5 (g j)) (b1 : z_in 0 7 (g (j + 1))) (b3 : z_in 0 6 (g (j + 3))) : z_b3 g j := ⟨b0, b1, b3⟩
theorem z_m3k (k5 : z_k5 g g') : z_mT3 nm 0 g' 0 = z_mT3 nm 0 g 0 := by
  obtain ⟨c0, c1, c2, c3, c4⟩ := k5
  show (z_mls nm 0 (g' 0), z_mls nm 5 (g' 1), z_mls nm 12 (g' 3)) = (z_mls nm 0 (g 0), z_mls nm 5 (g 1), z_mls nm 12 (g 3))
  rw [c0, c1, c3]
theorem z_v3k (k5 : z_k5 g g') (hv : z_v3 nm 0 g 0) : z_v3 nm 0 g' 0 := by
  obtain ⟨c0, c1, c2, c3, c4⟩ := k5
  obtain ⟨v0, v1, v3⟩ := hv
  have v0 : z_vn nm 0 (g 0) := v0
  have v1 : z_vn nm 5 (g 1) := v1
  have v3 : z_vn nm 12 (g 3) := v3
  refine ⟨?_, ?_, ?_⟩
  · show z_vn nm 0 (g' 0)
    rw [c0]
    exact v0
  · show z_vn nm 5 (g' 1)
    rw [c1]
    exact v1
  · show z_vn nm 12 (g' 3)
    rw [c3]
    exact v3
theorem z_v3a (hv : z_v3 nm 0 g 0) (e : n = g (0 : Int32).toNatClampNeg) : z_vn nm 0 n := by
  have e : n = g 0 := e
  rw [e]
  exact hv.1
theorem z_v3b (hv : z_v3 nm 0 g 0) (e : n = g (1 : Int32).toNatClampNeg) : z_vn nm 5 n := by
  have e : n = g 1 := e
  rw [e]
  exact hv.2.1
theorem z_v3c (hv : z_v3 nm 0 g 0) (e : n = g (3 : Int32).toNatClampNeg) : z_vn nm 12 n := by
  have e : n = g 3 := e
  rw [e]
  exact hv.2.2
def z_n18 (nm nm' : Nat → Int64) : Prop := ∀ k : Nat, k < 18 → nm' k = nm k
theorem z_n18r : z_n18 nm nm := fun _ _ => rfl
theorem z_n18t (p : z_n18 nm nm0) (q : z_n18 nm0 nm') : z_n18 nm nm' := fun k hk => (q k hk).trans (p k hk)
theorem z_n18h (e : vp_updL nm0 to.toNatClampNeg w = nm') (ht : z_in 18 35 to) (p : z_n18 nm nm0) : z_n18 nm nm' := by
  intro k hk
  have t1 := ht.1
  have et : to.toNatClampNeg = to.toInt.toNat := rfl
  rw [← e]
  show (if k = to.toNatClampNeg then w else nm0 k) = nm k
  rw [if_neg (by omega)]
  exact p k hk
def z_nc (nm0 nm : Nat → Int64) (k : Int32) : Prop := 0 ≤ k.toInt ∧ (∀ j : Nat, j < k.toInt.toNat → nm j = nm0 (18 + j)) ∧ ∀ j : Nat, 18 ≤ j → nm j = nm0 j
theorem z_nc0 : z_nc nm nm 0 := ⟨by decide, fun j hj => absurd hj (Nat.not_lt_zero j), fun _ _ => rfl⟩
theorem z_ncS (hI : z_nc nm0 nm k) (tk : kk.toInt = k.toInt + 1) (hk : z_in 0 17 k) (ty : y.toInt = k.toInt + 18) (ew : w = nm y.toNatClampNeg) (e : vp_updL nm k.toNatClampNeg w = nm') : z_nc nm0 nm' kk := by
  obtain ⟨h0, h1, h2⟩ := hI
  have k2 := hk.2
  have ek : k.toNatClampNeg = k.toInt.toNat := rfl
  have ey : y.toNatClampNeg = y.toInt.toNat := rfl
  refine ⟨by omega, fun j hj => ?_, fun j hj => ?_⟩
  · rw [← e]
    show (if j = k.toNatClampNeg then w else nm j) = nm0 (18 + j)
    by_cases c : j = k.toNatClampNeg
    · rw [if_pos c, ew, h2 _ (by omega)]
      exact congrArg nm0 (by omega)
    · rw [if_neg c]
      exact h1 j (by omega)
  · rw [← e]
    show (if j = k.toNatClampNeg then w else nm j) = nm0 j
    rw [if_neg (by omega)]
    exact h2 j hj
def z_TnM (f : Nat → Int32) (t : Int32) (nm' : Nat → Int64) (g' : Nat → Int32) (nm : Nat → Int64) (g : Nat → Int32) : Prop := z_Nt f t (z_mT3 nm' 0 g' 0) (z_mT3 nm 0 g 0)
theorem z_ncE (hn : z_nc nm0 nm' kk) (hk : z_in 18 18 kk) : ∀ j : Nat, j < 18 → nm' j = nm0 (18 + j) := fun j hj => hn.2.1 j (by have := hk.1; omega)
theorem z_TnM0 (hI : z_LM f t m n a nm0 h b) (hm : z_mt f t m k a v w bb) (hk : k = 0) (ht : z_in 0 940 t) (h9 : z_in 0 940 m) (q1 : z_sz t t0) (q2 : z_sz m 900) (b0 : z_in 0 5 (h 0)) (b1 : z_in 0 7 (h 1)) (b3 : z_in 0 6 (h 3)) (k5 : z_k5 h g') (hn : z_nc nm0 nm' kk) (hkk : z_in 18 18 kk) : z_TnM f t0 nm' g' nm g := by
  have q1 : t = t0 := q1
  have q2 : m = 900 := q2
  subst q1 q2
  obtain ⟨a0, h0, h1, h2, h3⟩ := hI
  refine Or.inl ⟨z_mtw nm0 h b, n.toInt.toNat, ⟨a0, h0, h1, n.toInt.toNat, _, a, h3, Or.inl ⟨z_mt0 hm hk ht h9, rfl⟩⟩, ?_⟩
  show z_mT3 nm' 0 g' 0 = (z_mls nm0 18 (h 0), z_mls nm0 23 (h 1), z_mls nm0 30 (h 3))
  have q := z_ncE hn hkk
  exact (z_m3k k5).trans (z_m3Q (nm := nm') (nm' := nm0) (o := 0) (o' := 18) (j := 0) (j' := 0) (g := h) (g' := h) ⟨b0, b1, b3⟩ (fun j hj => by rw [Nat.zero_add]; exact q j hj) rfl rfl rfl)
theorem z_n18q (h : z_n18 nm nm') : ∀ k : Nat, k < 18 → nm' (0 + k) = nm (0 + k) := fun k hk => by
  rw [Nat.zero_add]
  exact h k hk
theorem z_TnM1 (hI : z_LM f t m n a nm0 h b) (hm : z_mt f t m k a v w bb) (hk : ¬ k = 0) (ht : z_in 0 940 t) (h9 : z_in 0 940 m) (q1 : z_sz t t0) (q2 : z_sz m 900) (hl : z_RM 5 f t m a nm0 h b r1 a1 nm1 h' b' F G) (e1 : r1 = 0) (b0 : z_in 0 5 (g 0)) (b1 : z_in 0 7 (g 1)) (b3 : z_in 0 6 (g 3)) (hn : z_n18 nm nm') : z_TnM f t0 nm' g nm g := by
  have q1 : t = t0 := q1
  have q2 : m = 900 := q2
  subst q1 q2
  obtain ⟨a0, h0, h1, h2, h3⟩ := hI
  exact Or.inr ⟨⟨(F, G), a0, h0, h1, n.toInt.toNat, _, a, h3, Or.inr ⟨z_mt0n hm hk ht h9, (F, G), z_bdL (z_RM5L hl e1), rfl⟩⟩, z_m3Q (nm := nm') (nm' := nm) (o := 0) (o' := 0) (j := 0) (j' := 0) (g := g) (g' := g) ⟨b0, b1, b3⟩ (z_n18q hn) rfl rfl rfl⟩
theorem z_TnM2 (hI : z_LM f t m n a nm0 h b) (hm : z_mt f t m k a v w bb) (hk : ¬ k = 0) (ht : z_in 0 940 t) (h9 : z_in 0 940 m) (q1 : z_sz t t0) (q2 : z_sz m 900) (hl : z_RM 5 f t m a nm0 h b r1 a1 nm1 h' b' F1 G1) (e1 : r1 = 1) (hs : z_Ps f t m a1 59 r2 a2 F G) (e2 : r2 = 0) (b0 : z_in 0 5 (g 0)) (b1 : z_in 0 7 (g 1)) (b3 : z_in 0 6 (g 3)) (hn : z_n18 nm nm') : z_TnM f t0 nm' g nm g := by
  have q1 : t = t0 := q1
  have q2 : m = 900 := q2
  subst q1 q2
  obtain ⟨a0, h0, h1, h2, h3⟩ := hI
  refine Or.inr ⟨⟨(F, G), a0, h0, h1, n.toInt.toNat, _, a, h3, Or.inr ⟨z_mt0n hm hk ht h9, (F, G), ?_, rfl⟩⟩, z_m3Q (nm := nm') (nm' := nm) (o := 0) (o' := 0) (j := 0) (j' := 0) (g := g) (g' := g) ⟨b0, b1, b3⟩ (z_n18q hn) rfl rfl rfl⟩
  unfold z_fLn
  rw [z_bdR (z_RM5R hl e1)]
  exact z_bdL (z_PsL hs e2)
theorem z_v3T (hv : z_vh nm0 h) (b0 : z_in 0 5 (h 0)) (b1 : z_in 0 7 (h 1)) (b3 : z_in 0 6 (h 3)) (k5 : z_k5 h g') (hn : z_nc nm0 nm' kk) (hkk : z_in 18 18 kk) : z_v3 nm' 0 g' 0 := by
  have q := z_ncE hn hkk
  have v : z_v3 nm0 18 h 0 := ⟨hv.1, hv.2.1, hv.2.2⟩
  exact z_v3k k5 (z_v3Q (nm := nm0) (nm' := nm') (o := 18) (o' := 0) (j := 0) (j' := 0) (g := h) (g' := h) ⟨b0, b1, b3⟩ (fun j hj => by rw [Nat.zero_add]; exact (q j hj).symm) rfl rfl rfl v)
theorem z_v3F (hv : z_v3 nm 0 g 0) (b0 : z_in 0 5 (g 0)) (b1 : z_in 0 7 (g 1)) (b3 : z_in 0 6 (g 3)) (hn : z_n18 nm nm') : z_v3 nm' 0 g 0 := z_v3Q (nm := nm) (nm' := nm') (o := 0) (o' := 0) (j := 0) (j' := 0) (g := g) (g' := g) ⟨b0, b1, b3⟩ (fun k hk => (z_n18q hn k hk).symm) rfl rfl rfl hv
def z_cpN (nk0 nk nm : Nat → Int64) (k i : Int32) : Prop := 0 ≤ i.toInt ∧ (∀ j : Nat, j < i.toInt.toNat → nk (18 * k.toInt.toNat + j) = nm j) ∧ ∀ j : Nat, (j < 18 * k.toInt.toNat ∨ 18 * k.toInt.toNat + 18 ≤ j) → nk j = nk0 j
theorem z_cpN0 : z_cpN nk nk nm k 0 := ⟨by decide, fun j hj => absurd hj (Nat.not_lt_zero j), fun _ _ => rfl⟩
theorem z_cpNS {nk0 : Nat → Int64} (hI : z_cpN nk0 nk nm k i) (ti : kk.toInt = i.toInt + 1) (hi : z_in 0 17 i) (ew : w = nm i.toNatClampNeg) (e : vp_updL nk y.toNatClampNeg w = nk') (hy : y.toNatClampNeg = 18 * k.toNatClampNeg + i.toNatClampNeg) : z_cpN nk0 nk' nm k kk := by
  obtain ⟨h0, h1, h2⟩ := hI
  have i2 := hi.2
  have ei : i.toNatClampNeg = i.toInt.toNat := rfl
  have ek : k.toNatClampNeg = k.toInt.toNat := rfl
  refine ⟨by omega, fun j hj => ?_, fun j hj => ?_⟩
  · rw [← e]
    show (if 18 * k.toInt.toNat + j = y.toNatClampNeg then w else nk (18 * k.toInt.toNat + j)) = nm j
    by_cases c : 18 * k.toInt.toNat + j = y.toNatClampNeg
    · rw [if_pos c, ew]
      exact congrArg nm (by omega)
    · rw [if_neg c]
      exact h1 j (by omega)
  · rw [← e]
    show (if j = y.toNatClampNeg then w else nk j) = nk0 j
    rw [if_neg (by omega)]
    exact h2 j hj
def z_InM (nk' : Nat → Int64) (im' : Nat → Int32) (nk : Nat → Int64) (im : Nat → Int32) (nm : Nat → Int64) (g : Nat → Int32) (i : Int32) : Prop := z_In (z_mT3 nk' 0 im' 0) (z_mT3 nk' 18 im' 283) (z_mT3 nk 0 im 0) (z_mT3 nk 18 im 283) (z_mT3 nm 0 g 0) i
def z_v36 (nk : Nat → Int64) (im : Nat → Int32) : Prop := z_v3 nk 0 im 0 ∧ z_v3 nk 18 im 283
def z_b36 (im : Nat → Int32) : Prop := z_b3 im 0 ∧ z_b3 im 283
theorem z_ImP {nk0 : Nat → Int64} {im0 : Nat → Int32} {k9 : Int32} {b9 b8 : Int} (hi : z_in 0 1 i) (hp : z_cp im0 im' g i kk) (hkk : z_in 283 b9 kk) (hq : z_cpN nk0 nk' nm i k9) (hk9 : z_in 18 b8 k9) : (i = 0 ∧ (∀ j : Nat, j < 18 → nk' (0 + j) = nm (0 + j)) ∧ (∀ j : Nat, j < 18 → nk' (18 + j) = nk0 (18 + j)) ∧ (∀ j : Nat, j < 5 → im' j = g j) ∧ (∀ j : Nat, j < 5 → im' (283 + j) = im0 (283 + j))) ∨ (i = 1 ∧ (∀ j : Nat, j < 18 → nk' (18 + j) = nm (0 + j)) ∧ (∀ j : Nat, j < 18 → nk' (0 + j) = nk0 (0 + j)) ∧ (∀ j : Nat, j < 5 → im' (283 + j) = g j) ∧ (∀ j : Nat, j < 5 → im' j = im0 j)) := by
  have kb := hkk.1
  have k8 := hk9.1
  have q1 := hi.1
  have q2 := hi.2
  obtain ⟨p1, p2⟩ := hp
  obtain ⟨-, s1, s2⟩ := hq
  have ei : i.toNatClampNeg = i.toInt.toNat := rfl
  have ek : kk.toNatClampNeg = kk.toInt.toNat := rfl
  have e : i.toInt = 0 ∨ i.toInt = 1 := by omega
  rcases e with e | e
  · refine Or.inl ⟨Int32.toInt_inj.mp (e.trans (by decide)), fun j hj => ?_, fun j hj => ?_, fun j hj => ?_, fun j hj => ?_⟩
    · have q := s1 j (by omega)
      rw [show 18 * i.toInt.toNat + j = 0 + j by omega] at q
      rw [q, Nat.zero_add]
    · exact s2 (18 + j) (Or.inr (by omega))
    · have q := p1 j (by omega)
      rw [show 283 * i.toNatClampNeg + j = j by omega] at q
      exact q
    · exact p2 (283 + j) (Or.inr (by omega))
  · refine Or.inr ⟨Int32.toInt_inj.mp (e.trans (by decide)), fun j hj => ?_, fun j hj => ?_, fun j hj => ?_, fun j hj => ?_⟩
    · have q := s1 j (by omega)
      rw [show 18 * i.toInt.toNat + j = 18 + j by omega] at q
      rw [q, Nat.zero_add]
    · exact s2 (0 + j) (Or.inl (by omega))
    · have q := p1 j (by omega)
      rw [show 283 * i.toNatClampNeg + j = 283 + j by omega] at q
      exact q
    · exact p2 j (Or.inl (by omega))
theorem z_b3g {j' : Nat} (b : z_b3 g j) (e : ∀ k : Nat, k < 5 → g' (j' + k) = g (j + k)) : z_b3 g' j' := by
  obtain ⟨b0, b1, b3⟩ := b
  have x0 : g' j' = g j := e 0 (by decide)
  have x1 : g' (j' + 1) = g (j + 1) := e 1 (by decide)
  have x3 : g' (j' + 3) = g (j + 3) := e 3 (by decide)
  refine ⟨?_, ?_, ?_⟩
  · rw [x0]
    exact b0
  · rw [x1]
    exact b1
  · rw [x3]
    exact b3
theorem z_m3I {j' o' : Nat} (b : z_b3 g j) (h : ∀ k : Nat, k < 18 → nm' (o' + k) = nm (o + k)) (e : ∀ k : Nat, k < 5 → g' (j' + k) = g (j + k)) : z_mT3 nm' o' g' j' = z_mT3 nm o g j := (z_m3Q (nm := nm) (nm' := nm') (o := o) (o' := o') (j := j) (j' := j') (g := g) (g' := g') b (fun k hk => (h k hk).symm) (e 0 (by decide)).symm (e 1 (by decide)).symm (e 3 (by decide)).symm).symm
theorem z_v3I {j' o' : Nat} (b : z_b3 g j) (h : ∀ k : Nat, k < 18 → nm' (o' + k) = nm (o + k)) (e : ∀ k : Nat, k < 5 → g' (j' + k) = g (j + k)) (hv : z_v3 nm o g j) : z_v3 nm' o' g' j' := z_v3Q (nm := nm) (nm' := nm') (o := o) (o' := o') (j := j) (j' := j') (g := g) (g' := g') b (fun k hk => (h k hk).symm) (e 0 (by decide)) (e 1 (by decide)) (e 3 (by decide)) hv
theorem z_e0 (e : ∀ k : Nat, k < 5 → g' k = g k) : ∀ k : Nat, k < 5 → g' (0 + k) = g (0 + k) := fun k hk => by
  rw [Nat.zero_add]
  exact e k hk
theorem z_e1 (e : ∀ k : Nat, k < 5 → g' (j + k) = g k) : ∀ k : Nat, k < 5 → g' (j + k) = g (0 + k) := fun k hk => by
  rw [Nat.zero_add]
  exact e k hk
theorem z_e2 (e : ∀ k : Nat, k < 5 → g' k = g (j + k)) : ∀ k : Nat, k < 5 → g' (0 + k) = g (j + k) := fun k hk => by
  rw [Nat.zero_add]
  exact e k hk
theorem z_InMS {nk0 : Nat → Int64} {im0 : Nat → Int32} {k9 : Int32} {b9 b8 : Int} (hi : z_in 0 1 i) (hp : z_cp im0 im' g i kk) (hkk : z_in 283 b9 kk) (hq : z_cpN nk0 nk' nm i k9) (hk9 : z_in 18 b8 k9) (bi : z_b36 im0) (bg : z_b3 g 0) : z_InM nk' im' nk0 im0 nm g i := by
  rcases z_ImP hi hp hkk hq hk9 with ⟨e, h1, h2, h3, h4⟩ | ⟨e, h1, h2, h3, h4⟩
  · exact Or.inl ⟨e, z_m3I bg h1 (z_e0 h3), z_m3I bi.2 h2 h4⟩
  · exact Or.inr (Or.inl ⟨e, z_m3I bi.1 h2 (z_e0 h4), z_m3I bg h1 (z_e1 (j := 283) h3)⟩)
theorem z_v36S {nk0 : Nat → Int64} {im0 : Nat → Int32} {k9 : Int32} {b9 b8 : Int} (hi : z_in 0 1 i) (hp : z_cp im0 im' g i kk) (hkk : z_in 283 b9 kk) (hq : z_cpN nk0 nk' nm i k9) (hk9 : z_in 18 b8 k9) (bi : z_b36 im0) (bg : z_b3 g 0) (hv : z_v36 nk0 im0) (hg : z_v3 nm 0 g 0) : z_v36 nk' im' := by
  rcases z_ImP hi hp hkk hq hk9 with ⟨e, h1, h2, h3, h4⟩ | ⟨e, h1, h2, h3, h4⟩
  · exact ⟨z_v3I bg h1 (z_e0 h3) hg, z_v3I bi.2 h2 h4 hv.2⟩
  · exact ⟨z_v3I bi.1 h2 (z_e0 h4) hv.1, z_v3I bg h1 (z_e1 (j := 283) h3) hg⟩
theorem z_InMN (hi : z_im r i) (h0 : r = 0) : z_InM nk im nk im nm g i := by
  rcases hi with ⟨e, -⟩ | ⟨-, q⟩
  · rw [h0] at e
    exact absurd e (by decide)
  · exact Or.inr (Or.inr ⟨q, rfl, rfl⟩)
def z_cqN (nm nk : Nat → Int64) (k i : Int32) : Prop := 0 ≤ i.toInt ∧ ∀ j : Nat, j < i.toInt.toNat → nm j = nk (18 * k.toInt.toNat + j)
theorem z_cqN0 : z_cqN nm nk k 0 := ⟨by decide, fun j hj => absurd hj (Nat.not_lt_zero j)⟩
theorem z_cqNS (hI : z_cqN nm nk k i) (ti : kk.toInt = i.toInt + 1) (ew : w = nk y.toNatClampNeg) (e : vp_updL nm i.toNatClampNeg w = nm') (hy : y.toNatClampNeg = 18 * k.toNatClampNeg + i.toNatClampNeg) : z_cqN nm' nk k kk := by
  obtain ⟨h0, h1⟩ := hI
  have ei : i.toNatClampNeg = i.toInt.toNat := rfl
  have ek : k.toNatClampNeg = k.toInt.toNat := rfl
  refine ⟨by omega, fun j hj => ?_⟩
  rw [← e]
  show (if j = i.toNatClampNeg then w else nm j) = nk (18 * k.toInt.toNat + j)
  by_cases c : j = i.toNatClampNeg
  · rw [if_pos c, ew]
    exact congrArg nk (by omega)
  · rw [if_neg c]
    exact h1 j (by omega)
def z_RnM (nm' : Nat → Int64) (g' : Nat → Int32) (nm : Nat → Int64) (g : Nat → Int32) (nk : Nat → Int64) (im k9 : Nat → Int32) (i : Int32) : Prop := z_Rn (z_mT3 nm' 0 g' 0) (z_mT3 nm 0 g 0) (z_mT3 nk 0 im 0) (z_mT3 nk 18 im 283) (k9 0) (k9 1) i
theorem z_RsP {k8 : Int32} {b9 b8 : Int} (hi : z_in 0 1 i) (hq : z_cq g' im i kk) (hkk : z_in 283 b9 kk) (hn : z_cqN nm' nk i k8) (hk8 : z_in 18 b8 k8) : (i = 0 ∧ (∀ j : Nat, j < 18 → nm' (0 + j) = nk (0 + j)) ∧ (∀ j : Nat, j < 5 → g' j = im j)) ∨ (i = 1 ∧ (∀ j : Nat, j < 18 → nm' (0 + j) = nk (18 + j)) ∧ (∀ j : Nat, j < 5 → g' j = im (283 + j))) := by
  have kb := hkk.1
  have k7 := hk8.1
  have q1 := hi.1
  have q2 := hi.2
  have s1 := hn.2
  have ei : i.toNatClampNeg = i.toInt.toNat := rfl
  have ek : kk.toNatClampNeg = kk.toInt.toNat := rfl
  have e : i.toInt = 0 ∨ i.toInt = 1 := by omega
  rcases e with e | e
  · refine Or.inl ⟨Int32.toInt_inj.mp (e.trans (by decide)), fun j hj => ?_, fun j hj => ?_⟩
    · have q := s1 j (by omega)
      rw [show 18 * i.toInt.toNat + j = 0 + j by omega] at q
      rw [Nat.zero_add, q, Nat.zero_add]
    · have q := hq j (by omega)
      rw [show 283 * i.toNatClampNeg + j = j by omega] at q
      exact q
  · refine Or.inr ⟨Int32.toInt_inj.mp (e.trans (by decide)), fun j hj => ?_, fun j hj => ?_⟩
    · have q := s1 j (by omega)
      rw [show 18 * i.toInt.toNat + j = 18 + j by omega] at q
      rw [Nat.zero_add, q]
    · have q := hq j (by omega)
      rw [show 283 * i.toNatClampNeg + j = 283 + j by omega] at q
      exact q
theorem z_RnMS {k9 : Nat → Int32} {k8 : Int32} {b9 b8 : Int} (hi : z_in 0 1 i) (ey : y = k9 i.toNatClampNeg) (hy : y = 1) (hq : z_cq g' im i kk) (hkk : z_in 283 b9 kk) (hn : z_cqN nm' nk i k8) (hk8 : z_in 18 b8 k8) (bi : z_b36 im) : z_RnM nm' g' nm g nk im k9 i := by
  rcases z_RsP hi hq hkk hn hk8 with ⟨e, h1, h2⟩ | ⟨e, h1, h2⟩
  · subst e
    exact Or.inl ⟨rfl, ey.symm.trans hy, z_m3I bi.1 h1 (z_e0 h2)⟩
  · subst e
    exact Or.inr (Or.inl ⟨rfl, ey.symm.trans hy, z_m3I bi.2 h1 (z_e2 (j := 283) h2)⟩)
theorem z_v3S {k8 : Int32} {b9 b8 : Int} (hi : z_in 0 1 i) (hq : z_cq g' im i kk) (hkk : z_in 283 b9 kk) (hn : z_cqN nm' nk i k8) (hk8 : z_in 18 b8 k8) (bi : z_b36 im) (hv : z_v36 nk im) : z_v3 nm' 0 g' 0 := by
  rcases z_RsP hi hq hkk hn hk8 with ⟨e, h1, h2⟩ | ⟨e, h1, h2⟩
  · exact z_v3I bi.1 h1 (z_e0 h2) hv.1
  · exact z_v3I bi.2 h1 (z_e2 (j := 283) h2) hv.2
theorem z_RnMN {k9 : Nat → Int32} (hi : z_im r i) (h0 : r = 0) : z_RnM nm g nm g nk im k9 i := by
  rcases hi with ⟨e, -⟩ | ⟨-, q⟩
  · rw [h0] at e
    exact absurd e (by decide)
  · exact z_RnN9 q
theorem z_RnMK {k9 : Nat → Int32} (hi : z_in 0 1 i) (ey : y = k9 i.toNatClampNeg) (hy : y = 0) : z_RnM nm g nm g nk im k9 i := by
  have q1 := hi.1
  have q2 := hi.2
  have e : i.toInt = 0 ∨ i.toInt = 1 := by omega
  rcases e with e | e
  · have e : i = 0 := Int32.toInt_inj.mp (e.trans (by decide))
    subst e
    exact z_RnK09 rfl (ey.symm.trans hy)
  · have e : i = 1 := Int32.toInt_inj.mp (e.trans (by decide))
    subst e
    exact z_RnK19 rfl (ey.symm.trans hy)
theorem z_b3s (b0 : z_in 0 5 (g 0)) (b1 : z_in 0 7 (g 1)) (b3 : z_in 0 6 (g 3)) : z_b3 g 0 := ⟨b0, b1, b3⟩
theorem z_b36s (b0 : z_in 0 5 (im 0)) (b1 : z_in 0 7 (im 1)) (b3 : z_in 0 6 (im 3)) (c0 : z_in 0 5 (im 283)) (c1 : z_in 0 7 (im 284)) (c3 : z_in 0 6 (im 286)) : z_b36 im := ⟨⟨b0, b1, b3⟩, c0, c1, c3⟩
theorem z_TnMX {N : z_NT} (h9 : z_TnM f t nm' g' nm g) (e : z_mT3 nm 0 g 0 = N) : z_Nt f t (z_mT3 nm' 0 g' 0) N := by
  rw [← e]
  exact h9
theorem z_InMX {A B G9 : z_NT} (h9 : z_InM nk' im' nk im nm g i) (e1 : z_mT3 nk 0 im 0 = A) (e2 : z_mT3 nk 18 im 283 = B) (e3 : z_mT3 nm 0 g 0 = G9) : z_In (z_mT3 nk' 0 im' 0) (z_mT3 nk' 18 im' 283) A B G9 i := by
  rw [← e1, ← e2, ← e3]
  exact h9
theorem z_RnMX {A B G9 : z_NT} {k9 : Nat → Int32} {c d : Int32} (h9 : z_RnM nm' g' nm g nk im k9 i) (e0 : z_mT3 nm 0 g 0 = G9) (e1 : z_mT3 nk 0 im 0 = A) (e2 : z_mT3 nk 18 im 283 = B) (d0 : k9 0 = c) (d1 : k9 1 = d) : z_Rn (z_mT3 nm' 0 g' 0) G9 A B c d i := by
  rw [← e0, ← e1, ← e2, ← d0, ← d1]
  exact h9
def z_SnM (r : Int32) (f : Nat → Int32) (t : Int32) (nm : Nat → Int64) (s : Nat → Int32) : Prop := z_Sn r f t (z_P0 nm s) (z_U0 nm s)
theorem z_SnMY {N : z_NT} (h9 : z_SnM r f t nm g) (e : z_mT3 nm 0 g 0 = N) : z_SN r f t N := by
  rw [← e]
  exact h9
end
noncomputable def z_Q0 (nm : Nat → Int64) (s : Nat → Int32) : List Int64 := z_mls nm 5 (s 1)
def z_BL (r : Int32) (f : Nat → Int32) (t m : Int32) (nm : Nat → Int64) (s : Nat → Int32) (l a a' F G : Int32) : Prop := (r = 1 ∧ z_z0 F ∧ z_fBl f t m (z_P0 nm s) (z_Q0 nm s) (z_U0 nm s) l a = .inr a') ∨ (r = 0 ∧ z_fBl f t m (z_P0 nm s) (z_Q0 nm s) (z_U0 nm s) l a = .inl (F, G))
section
variable {f s h : Nat → Int32} {nm : Nat → Int64} {t m k v b k1 v1 b1 a a1 a2 a' r q q1 q2 q3 z F G F1 G1 F2 G2 l l' n n1 got got1 i y i0 F0 : Int32} {w w1 : Int64} {c9 : Nat}
theorem z_qWY {j j' : Int64} {i i' : Nat} {P : Prop} (h1 : z_qW q f t m a j) (e1 : q = 1) (n1 : z_nw j (z_cds.getD i 0)) (h2 : z_qW q1 f t m a j') (e2 : q1 = 1) (n2 : z_nw j' (z_cds.getD i' 0)) (hi : decide (1 ≤ i ∧ i < 22 ∧ 1 ≤ i' ∧ i' < 22 ∧ ¬ i = i') = true) : P := by
  have hi := of_decide_eq_true hi
  have x1 := z_qx1 h1 e1 n1 (decide_eq_true ⟨hi.1, hi.2.1⟩)
  have x2 := z_qx1 h2 e2 n2 (decide_eq_true ⟨hi.2.2.1, hi.2.2.2.1⟩)
  exact absurd (x1.symm.trans x2) hi.2.2.2.2
theorem z_PkmR9 (h : z_Pkm q got f t m a nm c9 n a' F G) (e : q = 1) : z_fPk f t m (z_mls nm c9 n) a = .inr (got, a') := z_PkmR h e
theorem z_PmL9 {lo hi : Int32} (h : z_Pm q got f t m lo hi a a' F G) (e : q = 0) : z_fNu f t m lo hi a = .inl (F, G) := h.elim (fun s => by rw [e] at s; exact absurd s.1 (by decide)) (fun s => s.2)
theorem z_PmR9 {lo hi : Int32} (h : z_Pm q got f t m lo hi a a' F G) (e : q = 1) : z_fNu f t m lo hi a = .inr (got, a') := h.elim (fun s => s.2.2.2) (fun s => by rw [e] at s; exact absurd s.1 (by decide))
theorem z_BLf4 (hr : r = 0) (h1 : z_qW q f t m a 28839564633334124) (e1 : q = 1) (hl : z_in 40 40 l) (hf : z_fa F G 4 a) : z_BL r f t m nm s l a a' F G := by
  have l1 := hl.1
  refine Or.inr ⟨hr, ?_⟩
  unfold z_fBl
  rw [z_ifT (z_qx1 h1 e1 z_wd10 rfl), z_ifT (show 40 ≤ l.toInt from l1), hf.1, hf.2]
theorem z_BLd4 (hr : r = 0) (h1 : z_qW q f t m a 6578553) (e1 : q = 1) (hl : z_in 40 40 l) (hf : z_fa F G 4 a) : z_BL r f t m nm s l a a' F G := by
  have l1 := hl.1
  have x := z_qx1 h1 e1 z_wd11 rfl
  refine Or.inr ⟨hr, ?_⟩
  unfold z_fBl
  rw [z_ifF (show ¬ z_wx f t m a = 10 by omega), z_ifT x, z_ifT (show 40 ≤ l.toInt from l1), hf.1, hf.2]
theorem z_BLf (h1 : z_qW q f t m a 28839564633334124) (e1 : q = 1) (hl : z_in 0 39 l) (hs : z_SA f t m a a1) (hp : z_Pkm r got f t m a1 nm 0 n a' F G) (en : n = s (0 : Int32).toNatClampNeg) : z_BL r f t m nm s l a a' F G := by
  have l2 := hl.2
  have en : n = s 0 := en
  rw [en] at hp
  have eq : z_fBl f t m (z_P0 nm s) (z_Q0 nm s) (z_U0 nm s) l a = z_bd (z_fPk f t m (z_P0 nm s) a1) (fun q => .inr q.2) := by
    unfold z_fBl
    rw [z_ifT (z_qx1 h1 e1 z_wd10 rfl), z_ifF (show ¬ 40 ≤ l.toInt by omega), z_nxtE hs]
  rcases hp with ⟨x, y, -, z⟩ | ⟨x, y⟩
  · exact Or.inl ⟨x, y, eq.trans (z_bdR (y := (got, a')) z)⟩
  · exact Or.inr ⟨x, eq.trans (z_bdL y)⟩
theorem z_BLd (h1 : z_qW q f t m a 6578553) (e1 : q = 1) (hl : z_in 0 39 l) (hs : z_SA f t m a a1) (hp : z_Pm r got f t m 1 60 a1 a' F G) : z_BL r f t m nm s l a a' F G := by
  have l2 := hl.2
  have x := z_qx1 h1 e1 z_wd11 rfl
  have eq : z_fBl f t m (z_P0 nm s) (z_Q0 nm s) (z_U0 nm s) l a = z_bd (z_fNu f t m 1 60 a1) (fun q => .inr q.2) := by
    unfold z_fBl
    rw [z_ifF (show ¬ z_wx f t m a = 10 by omega), z_ifT x, z_ifF (show ¬ 40 ≤ l.toInt by omega), z_nxtE hs]
  rcases hp with ⟨x, y, -, z⟩ | ⟨x, y⟩
  · exact Or.inl ⟨x, y, eq.trans (by rw [z_bdR z] <;> rfl)⟩
  · exact Or.inr ⟨x, eq.trans (z_bdL y)⟩
theorem z_BLq {P Q U : List Int64} (h1 : z_qW q1 f t m a 28839564633334124) (e1 : q1 = 0) (h2 : z_qW q2 f t m a 6578553) (e2 : q2 = 0) : z_fBl f t m P Q U l a = z_bd (z_fKn f t m Q a) (fun _ => z_if (40 ≤ l.toInt) (.inl (4, a)) (z_fAc f t m P U (z_nxt f t m a))) := by
  unfold z_fBl
  rw [z_ifF (z_qx0 h1 e1 z_wd10 rfl), z_ifF (z_qx0 h2 e2 z_wd11 rfl)]
theorem z_BLp0 (hr : r = 0) (h1 : z_qW q1 f t m a 28839564633334124) (e1 : q1 = 0) (h2 : z_qW q2 f t m a 6578553) (e2 : q2 = 0) (hk : z_Km q got f t m a nm 5 n F G) (e : q = 0) (en : n = s (1 : Int32).toNatClampNeg) : z_BL r f t m nm s l a a' F G := by
  have en : n = s 1 := en
  rw [en] at hk
  exact Or.inr ⟨hr, (z_BLq h1 e1 h2 e2).trans (z_bdL (z_KmL hk e))⟩
theorem z_BLp4 (hr : r = 0) (h1 : z_qW q1 f t m a 28839564633334124) (e1 : q1 = 0) (h2 : z_qW q2 f t m a 6578553) (e2 : q2 = 0) (hk : z_Km q got f t m a nm 5 n F1 G1) (e : q = 1) (en : n = s (1 : Int32).toNatClampNeg) (hl : z_in 40 40 l) (hf : z_fa F G 4 a) : z_BL r f t m nm s l a a' F G := by
  have l1 := hl.1
  have en : n = s 1 := en
  rw [en] at hk
  have k9 : z_fKn f t m (z_Q0 nm s) a = .inr got := z_KmR hk e
  refine Or.inr ⟨hr, ?_⟩
  rw [z_BLq h1 e1 h2 e2, z_bdR k9, z_ifT (show 40 ≤ l.toInt from l1), hf.1, hf.2]
def z_acq (r : Int32) (f : Nat → Int32) (t m a : Int32) : Prop := (r = 0 ∧ z_wx f t m a = 7) ∨ ((r = 1 ∨ r = 2) ∧ (z_wx f t m a = 8 ∨ z_wx f t m a = 9)) ∨ (r = -1 ∧ ¬ (z_wx f t m a = 7 ∨ z_wx f t m a = 8 ∨ z_wx f t m a = 9))
theorem z_ac0 (h : z_qW q f t m a 1735353715) (e : q = 1) (hr : r = 0) : z_acq r f t m a := Or.inl ⟨hr, z_qx1 h e z_wd7 rfl⟩
theorem z_ac1 (h : z_qW q f t m a 499850634611) (e : q = 1) (hr : r = 1) : z_acq r f t m a := Or.inr (Or.inl ⟨Or.inl hr, Or.inl (z_qx1 h e z_wd8 rfl)⟩)
theorem z_ac2 (h : z_qW q f t m a 119182682645875) (e : q = 1) (hr : r = 2) : z_acq r f t m a := Or.inr (Or.inl ⟨Or.inr hr, Or.inr (z_qx1 h e z_wd9 rfl)⟩)
theorem z_acN (h1 : z_qW q1 f t m a 1735353715) (e1 : q1 = 0) (h2 : z_qW q2 f t m a 499850634611) (e2 : q2 = 0) (h3 : z_qW q3 f t m a 119182682645875) (e3 : q3 = 0) (hr : r = -1) : z_acq r f t m a := Or.inr (Or.inr ⟨hr, fun s => by
  rcases s with s | s | s
  · exact z_qx0 h1 e1 z_wd7 rfl s
  · exact z_qx0 h2 e2 z_wd8 rfl s
  · exact z_qx0 h3 e3 z_wd9 rfl s⟩)
theorem z_acI {lo hi : Int} (h : z_acq r f t m a) (hr : z_in lo hi r) : (hi < 0 → ¬ (z_wx f t m a = 7 ∨ z_wx f t m a = 8 ∨ z_wx f t m a = 9)) ∧ (lo = 0 → hi = 0 → z_wx f t m a = 7) ∧ (1 ≤ lo → z_wx f t m a = 8 ∨ z_wx f t m a = 9) := by
  have r1 := hr.1
  have r2 := hr.2
  have e0 : (0 : Int32).toInt = 0 := rfl
  have e1 : (1 : Int32).toInt = 1 := rfl
  have e2 : (2 : Int32).toInt = 2 := rfl
  have em : (-1 : Int32).toInt = -1 := rfl
  rcases h with ⟨e, h⟩ | ⟨e, h⟩ | ⟨e, h⟩
  · rw [e] at r1 r2
    refine ⟨fun q => ?_, fun q q2 => h, fun q => ?_⟩
    · omega
    · omega
  · rcases e with e | e
    · rw [e] at r1 r2
      refine ⟨fun q => ?_, fun q q2 => ?_, fun q => h⟩
      · omega
      · omega
    · rw [e] at r1 r2
      refine ⟨fun q => ?_, fun q q2 => ?_, fun q => h⟩
      · omega
      · omega
  · rw [e] at r1 r2
    refine ⟨fun q => h, fun q q2 => ?_, fun q => ?_⟩
    · omega
    · omega
theorem z_nsAc {hi : Int} (h : z_acq r f t m a) (hr : z_in 0 hi r) : z_ns t m a := by
  have w7 : z_wx f t m a = 7 ∨ z_wx f t m a = 8 ∨ z_wx f t m a = 9 := by
    rcases h with ⟨-, h⟩ | ⟨-, h⟩ | ⟨e, -⟩
    · exact Or.inl h
    · exact Or.inr h
    · have r1 := hr.1
      rw [e] at r1
      exact absurd r1 (by decide)
  exact (z_wxT (f := f) (t := t) (m := m) (a := a) (by omega) rfl).1
theorem z_BLp1 (hr : r = 0) (h1 : z_qW q1 f t m a 28839564633334124) (e1 : q1 = 0) (h2 : z_qW q2 f t m a 6578553) (e2 : q2 = 0) (hk : z_Km q got f t m a nm 5 n F1 G1) (e : q = 1) (en : n = s (1 : Int32).toNatClampNeg) (hl : z_in 0 39 l) (hs : z_SA f t m a a1) (ha : z_acq z f t m a1) (hz : z_in (-1) (-1) z) (hf : z_fa F G 1 a1) : z_BL r f t m nm s l a a' F G := by
  have l2 := hl.2
  have x := (z_acI ha hz).1 (by decide)
  have en : n = s 1 := en
  rw [en] at hk
  have k9 : z_fKn f t m (z_Q0 nm s) a = .inr got := z_KmR hk e
  refine Or.inr ⟨hr, ?_⟩
  rw [z_BLq h1 e1 h2 e2, z_bdR k9, z_ifF (show ¬ 40 ≤ l.toInt by omega), z_nxtE hs]
  unfold z_fAc
  rw [z_ifF (show ¬ z_wx f t m a1 = 7 by omega), z_ifF (show ¬ (z_wx f t m a1 = 8 ∨ z_wx f t m a1 = 9) by omega), hf.1, hf.2]
theorem z_BLg (hr : r = q3) (h1 : z_qW q1 f t m a 28839564633334124) (e1 : q1 = 0) (h2 : z_qW q2 f t m a 6578553) (e2 : q2 = 0) (hk : z_Km q got f t m a nm 5 n F1 G1) (e : q = 1) (en : n = s (1 : Int32).toNatClampNeg) (hl : z_in 0 39 l) (hs : z_SA f t m a a1) (ha : z_acq z f t m a1) (hz : z_in 0 0 z) (hs2 : z_SA f t m a1 a2) (hp : z_Pkm q3 got1 f t m a2 nm 0 n1 a' F G) (en1 : n1 = s (0 : Int32).toNatClampNeg) : z_BL r f t m nm s l a a' F G := by
  have l2 := hl.2
  have x := (z_acI ha hz).2.1 rfl rfl
  have en : n = s 1 := en
  have en1 : n1 = s 0 := en1
  rw [en] at hk
  rw [en1] at hp
  have k9 : z_fKn f t m (z_Q0 nm s) a = .inr got := z_KmR hk e
  have eq : z_fBl f t m (z_P0 nm s) (z_Q0 nm s) (z_U0 nm s) l a = z_bd (z_fPk f t m (z_P0 nm s) a2) (fun q => .inr q.2) := by
    rw [z_BLq h1 e1 h2 e2, z_bdR k9, z_ifF (show ¬ 40 ≤ l.toInt by omega), z_nxtE hs]
    unfold z_fAc
    rw [z_ifT x, z_nxtE hs2]
  subst hr
  rcases hp with ⟨x, y, -, z⟩ | ⟨x, y⟩
  · exact Or.inl ⟨x, y, eq.trans (z_bdR (y := (got1, a')) z)⟩
  · exact Or.inr ⟨x, eq.trans (z_bdL y)⟩
theorem z_BLt (hr : r = q3) (h1 : z_qW q1 f t m a 28839564633334124) (e1 : q1 = 0) (h2 : z_qW q2 f t m a 6578553) (e2 : q2 = 0) (hk : z_Km q got f t m a nm 5 n F1 G1) (e : q = 1) (en : n = s (1 : Int32).toNatClampNeg) (hl : z_in 0 39 l) (hs : z_SA f t m a a1) (ha : z_acq z f t m a1) (hz : z_in 1 2 z) (hs2 : z_SA f t m a1 a2) (hp : z_Pkm q3 got1 f t m a2 nm 12 n1 a' F G) (en1 : n1 = s (3 : Int32).toNatClampNeg) : z_BL r f t m nm s l a a' F G := by
  have l2 := hl.2
  have x := (z_acI ha hz).2.2 (by decide)
  have en : n = s 1 := en
  have en1 : n1 = s 3 := en1
  rw [en] at hk
  rw [en1] at hp
  have k9 : z_fKn f t m (z_Q0 nm s) a = .inr got := z_KmR hk e
  have eq : z_fBl f t m (z_P0 nm s) (z_Q0 nm s) (z_U0 nm s) l a = z_bd (z_fPk f t m (z_U0 nm s) a2) (fun q => .inr q.2) := by
    rw [z_BLq h1 e1 h2 e2, z_bdR k9, z_ifF (show ¬ 40 ≤ l.toInt by omega), z_nxtE hs]
    unfold z_fAc
    rw [z_ifF (show ¬ z_wx f t m a1 = 7 by omega), z_ifT x, z_nxtE hs2]
  subst hr
  rcases hp with ⟨x, y, -, z⟩ | ⟨x, y⟩
  · exact Or.inl ⟨x, y, eq.trans (z_bdR (y := (got1, a')) z)⟩
  · exact Or.inr ⟨x, eq.trans (z_bdL y)⟩
theorem z_BLF (h : z_BL q f t m nm s l a a' F G) (e : q = 1) : z_z0 F := h.elim (fun s => s.2.1) (fun s => by rw [e] at s; exact absurd s.1 (by decide))
theorem z_ns10 (h : z_qW q f t m a 28839564633334124) (e : q = 1) : z_ns t m a := z_nsQ h e z_wd10
theorem z_ns11 (h : z_qW q f t m a 6578553) (e : q = 1) : z_ns t m a := z_nsQ h e z_wd11
def z_BN (f : Nat → Int32) (t m : Int32) (nm : Nat → Int64) (s : Nat → Int32) (l a : Int32) : Prop := ∃ (a0 : Int32) (i : Nat), 0 ≤ a0.toInt ∧ z_Tx f t.toInt.toNat m.toInt.toNat 0 a0.toInt.toNat ∧ z_it (fun x : Int32 × Int32 => z_TE t m x.2) (z_fBt f t m (z_P0 nm s) (z_Q0 nm s) (z_U0 nm s)) i (0, a0) (l, a)
theorem z_BN0 {p : Int32} (hl : l = 0) (hp : z_z0 p) (hx : z_TX f t m p a) (hm : z_mt f t m k a v w b) : z_BN f t m nm s l a := by
  have hp : p = 0 := hp
  subst hp hl
  refine ⟨a, 0, hm.1, hx, ?_⟩
  show ((0 : Int32), a) = (0, a)
  rfl
theorem z_BNS (hI : z_BN f t m nm s l a) (hm : z_mt f t m k a v w b) (hk : ¬ k = 0) (ht : z_in 0 940 t) (h9 : z_in 0 940 m) (hb : z_BL q f t m nm s l a a1 F1 G1) (e : q = 1) (hs : z_Ps f t m a1 59 q1 a2 F G) (e1 : q1 = 1) (tl : l' = l + 1) : z_BN f t m nm s l' a2 := by
  obtain ⟨a0, i, h0, h1, h3⟩ := hI
  have p := hb.elim (fun s => s.2.2) (fun s => by rw [e] at s; exact absurd s.1 (by decide))
  have p2 := hs.elim (fun s => s.2.2) (fun s => by rw [e1] at s; exact absurd s.1 (by decide))
  rw [tl]
  exact ⟨a0, i + 1, h0, h1, _, h3, z_mt0n hm hk ht h9, z_fBtI p p2⟩
def z_FbM (i : Int32) (f : Nat → Int32) (t : Int32) (nm : Nat → Int64) (s : Nat → Int32) (F F0 : Int32) : Prop := z_Fb i f t (z_mT3 nm 0 s 0) F F0
def z_BT (f : Nat → Int32) (t : Int32) (nm : Nat → Int64) (s : Nat → Int32) : Prop := ∃ y : (Int32 × Int32) × Nat, z_fBk f t (z_mT3 nm 0 s 0) (.inr y)
theorem z_BTI {t0 : Int32} (hI : z_BN f t m nm s l a) (hm : z_mt f t m k a v w b) (hk : k = 0) (ht : z_in 0 940 t) (h9 : z_in 0 940 m) (q2 : z_sz m 400) (q1 : z_sz t t0) : z_BT f t0 nm s := by
  have q2 : m = 400 := q2
  have q1 : t = t0 := q1
  subst q1 q2
  obtain ⟨a0, i, h0, h1, h3⟩ := hI
  exact ⟨((l, a), i), a0, h0, h1, i, (l, a), h3, Or.inl ⟨z_mt0 hm hk ht h9, rfl⟩⟩
theorem z_FbM0 (hi : z_in 0 1 i) (h : z_BT f t nm s) (hF : z_z0 F) : z_FbM i f t nm s F F0 := Or.inr ⟨hi, Or.inl ⟨hF, h⟩⟩
theorem z_FbM1 {t0 : Int32} (hi : z_in 0 1 i) (hI : z_BN f t m nm s l a) (hm : z_mt f t m k a v w b) (hk : ¬ k = 0) (ht : z_in 0 940 t) (h9 : z_in 0 940 m) (q2 : z_sz m 400) (q1 : z_sz t t0) (hb : z_BL q f t m nm s l a a1 F G) (e : q = 0) : z_FbM i f t0 nm s F F0 := by
  have q2 : m = 400 := q2
  have q1 : t = t0 := q1
  subst q1 q2
  obtain ⟨a0, i, h0, h1, h3⟩ := hI
  have p := hb.elim (fun s => by rw [e] at s; exact absurd s.1 (by decide)) (fun s => s.2)
  exact Or.inr ⟨hi, Or.inr ⟨G, a0, h0, h1, i, (l, a), h3, Or.inr ⟨z_mt0n hm hk ht h9, (F, G), z_bdL p, rfl⟩⟩⟩
theorem z_FbM2 {t0 : Int32} (hi : z_in 0 1 i) (hI : z_BN f t m nm s l a) (hm : z_mt f t m k a v w b) (hk : ¬ k = 0) (ht : z_in 0 940 t) (h9 : z_in 0 940 m) (q2 : z_sz m 400) (q1 : z_sz t t0) (hb : z_BL q f t m nm s l a a1 F1 G1) (e : q = 1) (hs : z_Ps f t m a1 59 q3 a2 F G) (e1 : q3 = 0) : z_FbM i f t0 nm s F F0 := by
  have q2 : m = 400 := q2
  have q1 : t = t0 := q1
  subst q1 q2
  obtain ⟨a0, i, h0, h1, h3⟩ := hI
  have p := hb.elim (fun s => s.2.2) (fun s => by rw [e] at s; exact absurd s.1 (by decide))
  have p2 := hs.elim (fun s => by rw [e1] at s; exact absurd s.1 (by decide)) (fun s => s.2)
  refine Or.inr ⟨hi, Or.inr ⟨G, a0, h0, h1, i, (l, a), h3, Or.inr ⟨z_mt0n hm hk ht h9, (F, G), ?_, rfl⟩⟩⟩
  exact z_fBtS p p2
theorem z_FbMn (hi : z_im r i) (h0 : r = 0) : z_FbM i f t nm s F0 F0 := by
  rcases hi with ⟨e, -⟩ | ⟨-, q⟩
  · rw [h0] at e
    exact absurd e (by decide)
  · exact Or.inl ⟨q, rfl⟩
theorem z_FtM0 {t0 : Int32} (hI : z_LM f t m n a nm h b) (hm : z_mt f t m k a v w b1) (hk : k = 0) (ht : z_in 0 940 t) (h9 : z_in 0 940 m) (q1 : z_sz t t0) (q2 : z_sz m 900) (hF : z_z0 F) : z_Ft f t0 F := by
  have q1 : t = t0 := q1
  have q2 : m = 900 := q2
  subst q1 q2
  obtain ⟨a0, h0, h1, h2, h3⟩ := hI
  exact Or.inl ⟨hF, _, _, a0, h0, h1, n.toInt.toNat, _, a, h3, Or.inl ⟨z_mt0 hm hk ht h9, rfl⟩⟩
theorem z_FtM1 {t0 r1 b' : Int32} {h' : Nat → Int32} {nm' : Nat → Int64} (hI : z_LM f t m n a nm h b) (hm : z_mt f t m k a v w b1) (hk : ¬ k = 0) (ht : z_in 0 940 t) (h9 : z_in 0 940 m) (q1 : z_sz t t0) (q2 : z_sz m 900) (hl : z_RM 5 f t m a nm h b r1 a1 nm' h' b' F G) (e1 : r1 = 0) : z_Ft f t0 F := by
  have q1 : t = t0 := q1
  have q2 : m = 900 := q2
  subst q1 q2
  obtain ⟨a0, h0, h1, h2, h3⟩ := hI
  exact Or.inr ⟨G, a0, h0, h1, n.toInt.toNat, _, a, h3, Or.inr ⟨z_mt0n hm hk ht h9, (F, G), z_bdL (z_RM5L hl e1), rfl⟩⟩
theorem z_FtM2 {t0 r1 r2 b' : Int32} {h' : Nat → Int32} {nm' : Nat → Int64} (hI : z_LM f t m n a nm h b) (hm : z_mt f t m k a v w b1) (hk : ¬ k = 0) (ht : z_in 0 940 t) (h9 : z_in 0 940 m) (q1 : z_sz t t0) (q2 : z_sz m 900) (hl : z_RM 5 f t m a nm h b r1 a1 nm' h' b' F1 G1) (e1 : r1 = 1) (hs : z_Ps f t m a1 59 r2 a2 F G) (e2 : r2 = 0) : z_Ft f t0 F := by
  have q1 : t = t0 := q1
  have q2 : m = 900 := q2
  subst q1 q2
  obtain ⟨a0, h0, h1, h2, h3⟩ := hI
  refine Or.inr ⟨G, a0, h0, h1, n.toInt.toNat, _, a, h3, Or.inr ⟨z_mt0n hm hk ht h9, (F, G), ?_, rfl⟩⟩
  unfold z_fLn
  rw [z_bdR (z_RM5R hl e1)]
  exact z_bdL (z_PsL hs e2)
def z_FsM (f : Nat → Int32) (t : Int32) (nm : Nat → Int64) (s : Nat → Int32) (F : Int32) : Prop := z_Fs f t (z_mT3 nm 0 s 0) F
section
variable {g g' : Nat → Int32} {o o' wh wh' n' d n2 : Int32} {go : Int32}
theorem z_FsM0 {t0 : Int32} (hI : z_SM go f t m nm s o g n wh a) (e : go = 0) (q1 : z_sz t t0) (hF : z_z0 F) : z_FsM f t0 nm s F := by
  have q1 : t = t0 := q1
  subst q1
  rcases hI with ⟨q, -⟩ | ⟨-, -, K, w, a, i, q⟩
  · rw [e] at q
    exact absurd q (by decide)
  · exact Or.inl ⟨hF, _, q⟩
theorem z_FsMB {t0 : Int32} (hI : z_SM go f t m nm s o g n wh a) (e : go = 1) (hw : wh = 1) (hm : z_mt f t m k a v w b) (hk : ¬ k = 0) (ht : z_in 0 940 t) (h9 : z_in 0 940 m) (q2 : z_sz m 200) (q1 : z_sz t t0) (hl : z_BM q f t m o g n a o' g' n' wh' a' F G) (e2 : q = 0) : z_FsM f t0 nm s F := by
  have q1 : t = t0 := q1
  have q2 : m = 200 := q2
  subst q1 q2
  obtain ⟨a0, i, h0, h1, h3⟩ := z_SMg hI e
  have s := hl.elim (fun s => by rw [e2] at s; exact absurd s.1 (by decide)) (fun s => s.2)
  rw [hw, z_kMw, z_wo1] at h3
  exact Or.inr ⟨G, a0, h0, h1, i, _, h3, Or.inr ⟨fun d => z_mt0n hm hk ht h9 d.2.2, (F, G), (z_fTnJ (by decide)).trans s, rfl⟩⟩
theorem z_FsMO {t0 : Int32} (hI : z_SM go f t m nm s o g n wh a) (e : go = 1) (hw : wh = 0) (q2 : z_sz m 200) (q1 : z_sz t t0) (hl : z_OM q f t m nm s o g n a o' g' n' wh' a' F G) (e2 : q = 0) : z_FsM f t0 nm s F := by
  have q1 : t = t0 := q1
  have q2 : m = 200 := q2
  subst q1 q2
  obtain ⟨a0, i, h0, h1, h3⟩ := z_SMg hI e
  have s := hl.elim (fun s => by rw [e2] at s; exact absurd s.1 (by decide)) (fun s => s.2)
  rw [hw, z_kMo, z_woo] at h3
  exact Or.inr ⟨G, a0, h0, h1, i, _, h3, Or.inr ⟨fun d => absurd (show (1 : Int32) = 0 from d.1) (by decide), (F, G), (z_fTnO rfl).trans s, rfl⟩⟩
theorem z_FsMX {t0 : Int32} {l : Int} (hI : z_SM go f t m nm s o g n wh a) (e : go = 1) (hw : wh = 1) (hm : z_mt f t m k a v w b) (hk : k = 0) (ht : z_in 0 940 t) (h9 : z_in 0 940 m) (q2 : z_sz m 200) (q1 : z_sz t t0) (hn : z_dnM g n n1) (hj : z_djM 2 g n1 n2) (h0 : z_in 1 l n2) (hf : z_fa F G 1 a) : z_FsM f t0 nm s F := by
  exact Or.inr ⟨G, z_SnMX9 hI e hw hm hk ht h9 q2 q1 hn hj h0 hf⟩
end
theorem z_FsMY {N : z_NT} (h9 : z_FsM f t nm s F) (e : z_mT3 nm 0 s 0 = N) : z_Fs f t N F := by
  rw [← e]
  exact h9
theorem z_FbMY {N : z_NT} (h9 : z_FbM i f t nm s F F0) (e : z_mT3 nm 0 s 0 = N) : z_Fb i f t N F F0 := by
  rw [← e]
  exact h9
end
theorem z_imI {r k : Int32} (h : z_im r k) (h1 : z_in 1 1 r) : z_in 0 1 k := by
  rcases h with h | ⟨e, -⟩
  · exact h.2
  · subst e
    exact absurd h1.1 (by decide)
theorem z_tbM {r t k : Int32} (h : z_im r k) (h0 : z_in 0 0 r) : z_tb t t k := by
  rcases h with ⟨e, -⟩ | ⟨-, h⟩
  · subst e
    exact absurd h0.2 (by decide)
  · exact Or.inr ⟨h, rfl⟩

set_option maxHeartbeats 8000000 in
set_option maxRecDepth 100000 in
theorem m_four920 (l : Launch) (D : va_G) (ad : Nat → Nat) (mo : Nat) (m0 : Int32) (m2 : Int32) (m3 : Int32) (m4 : Int32) (m5 : Int32) (m11 : Int32) (m12 : Int32) (m13 : Int32) (m14 : Int32) (m15 : Int32) (m16 : Int32) (m17 : Int64) (m18 : Int32) (m19 : Int32) (m20 : Int32) (m23 : Int32) (m24 : Int32) (m25 : Int32) (m26 : Int32) (m28 : Int32) (m30 : Int32) (m31 : Int32) (m33 : Int32) (m36 : Int32) (m37 : Int32) (m39 : Int32) (m40 : Int32) (m41 : Int32) (m43 : Int32) (m45 : Int32) (m46 : Int32) (m47 : Int32) (m48 : Int32) (m49 : Int32) (m1 : Nat) (m1t : ClassId) (m1f : Nat → Int32) (m6 : Nat) (m6t : ClassId) (m6f : Nat → Int32) (m7 : Nat) (m7t : ClassId) (m7f : Nat → Int32) (m8 : Nat) (m8t : ClassId) (m8f : Nat → Int32) (m9 : Nat) (m9t : ClassId) (m9f : Nat → Int64) (m10 : Nat) (m10t : ClassId) (m10f : Nat → Int64) (m21 : Nat) (m21t : ClassId) (m21f : Nat → Int32) (m22 : Nat) (m22t : ClassId) (m22f : Nat → Int32) (m27 : Nat) (m27t : ClassId) (m27f : Nat → Int32) (m29 : Nat) (m29t : ClassId) (m29f : Nat → Int32) (m32 : Nat) (m32t : ClassId) (m32f : Nat → Int32) (m34 : Nat) (m34t : ClassId) (m34f : Nat → Int32) (m35 : Nat) (m35t : ClassId) (m35f : Nat → Int32) (m38 : Nat) (m38t : ClassId) (m38f : Nat → Int32) (m42 : Nat) (m42t : ClassId) (m42f : Nat → Int32) (m44 : Nat) (m44t : ClassId) (m44f : Nat → Int32) (m50 : Nat) (m50t : ClassId) (m50f : Nat → Int32) (m51 : Nat) (m51t : ClassId) (m51f : Nat → Int32) (m52 : Nat) (m52t : ClassId) (m52f : Nat → Int64) (m53 : Nat) (m53t : ClassId) (m53f : Nat → Int32) (i0 : Int32) (hm2 : z_in 0 920 m2) (hm3 : z_in 0 940 m3) (hm4 : z_in 0 940 m4) (hm5 : z_in 0 940 m5) (hm11 : z_in 0 4 m11) (hm20 : z_in 0 1 m20) (hm23 : z_in 0 8 m23) (hm26 : z_in 0 1 m26) (hm28 : z_in (-1) 4 m28) (hm31 : z_in 0 1 m31) (hm33 : z_in (-1) 7 m33) (hm37 : z_in 0 1 m37) (hm39 : z_in 0 48 m39) (hm41 : z_in 0 40 m41) (hm43 : z_in 0 1 m43) (hm45 : z_in 0 45 m45) (hm46 : z_in 0 20 m46) (hm47 : z_in 0 45 m47) (hm49 : z_in 0 1 m49) (hm6f : z_sr m6f) (hm7f : z_hr m7f) (hm21f : z_ar rgU m21f) (hm22f : z_ar rgB m22f) (hm27f : z_al 0 4 m27f) (hm32f : z_al 0 4 m32f) (hm34f : z_al 0 1 m34f) (hm35f : z_al 0 1 m35f) (hm50f : z_al 0 1 m50f) (hm51f : z_ir m51f) (hm53f : z_al 0 1 m53f) : z_Mv l yX12_four wsX12_four { frames := 0, cells := 0, slots := 0, locals := 0 } D ad [.ref mo, .int i0] [(mo, .inr (11, [.int m0, .ref m1, .int m2, .int m3, .int m4, .int m5, .ref m6, .ref m7, .ref m8, .ref m9, .ref m10, .int m11, .int m12, .int m13, .int m14, .int m15, .int m16, .long m17, .int m18, .int m19, .int m20, .ref m21, .ref m22, .int m23, .int m24, .int m25, .int m26, .ref m27, .int m28, .ref m29, .int m30, .int m31, .ref m32, .int m33, .ref m34, .ref m35, .int m36, .int m37, .ref m38, .int m39, .int m40, .int m41, .ref m42, .int m43, .ref m44, .int m45, .int m46, .int m47, .int m48, .int m49, .ref m50, .ref m51, .ref m52, .ref m53])), (m1, .inl (m1t, 940, .inl m1f)), (m6, .inl (m6t, 283, .inl m6f)), (m7, .inl (m7t, 67, .inl m7f)), (m8, .inl (m8t, 135, .inl m8f)), (m9, .inl (m9t, 36, .inr (.inl m9f))), (m10, .inl (m10t, 21, .inr (.inl m10f))), (m21, .inl (m21t, 280, .inl m21f)), (m22, .inl (m22t, 35, .inl m22f)), (m27, .inl (m27t, 4, .inl m27f)), (m29, .inl (m29t, 5, .inl m29f)), (m32, .inl (m32t, 7, .inl m32f)), (m34, .inl (m34t, 25, .inl m34f)), (m35, .inl (m35t, 25, .inl m35f)), (m38, .inl (m38t, 48, .inl m38f)), (m42, .inl (m42t, 4, .inl m42f)), (m44, .inl (m44t, 45, .inl m44f)), (m50, .inl (m50t, 45, .inl m50f)), (m51, .inl (m51t, 566, .inl m51f)), (m52, .inl (m52t, 36, .inr (.inl m52f))), (m53, .inl (m53t, 2, .inl m53f))] [(m1t, .byte), (m6t, .int), (m7t, .int), (m8t, .int), (m9t, .long), (m10t, .long), (m21t, .int), (m22t, .int), (m27t, .int), (m29t, .int), (m32t, .int), (m34t, .boolean), (m35t, .boolean), (m38t, .byte), (m42t, .int), (m44t, .int), (m50t, .boolean), (m51t, .int), (m52t, .long), (m53t, .boolean)] 0 0 (fun u9 => ∃ (x0_2 : Int32) (x1_f : Nat → Int32), z_in 4 924 x0_2 ∧ z_a4 m2 x0_2 ∧ z_bn4 x1_f m1f m2 i0 ∧ u9 = ([(mo, .inr (11, [.int m0, .ref m1, .int x0_2, .int m3, .int m4, .int m5, .ref m6, .ref m7, .ref m8, .ref m9, .ref m10, .int m11, .int m12, .int m13, .int m14, .int m15, .int m16, .long m17, .int m18, .int m19, .int m20, .ref m21, .ref m22, .int m23, .int m24, .int m25, .int m26, .ref m27, .int m28, .ref m29, .int m30, .int m31, .ref m32, .int m33, .ref m34, .ref m35, .int m36, .int m37, .ref m38, .int m39, .int m40, .int m41, .ref m42, .int m43, .ref m44, .int m45, .int m46, .int m47, .int m48, .int m49, .ref m50, .ref m51, .ref m52, .ref m53])), (m1, .inl (m1t, 940, .inl x1_f)), (m6, .inl (m6t, 283, .inl m6f)), (m7, .inl (m7t, 67, .inl m7f)), (m8, .inl (m8t, 135, .inl m8f)), (m9, .inl (m9t, 36, .inr (.inl m9f))), (m10, .inl (m10t, 21, .inr (.inl m10f))), (m21, .inl (m21t, 280, .inl m21f)), (m22, .inl (m22t, 35, .inl m22f)), (m27, .inl (m27t, 4, .inl m27f)), (m29, .inl (m29t, 5, .inl m29f)), (m32, .inl (m32t, 7, .inl m32f)), (m34, .inl (m34t, 25, .inl m34f)), (m35, .inl (m35t, 25, .inl m35f)), (m38, .inl (m38t, 48, .inl m38f)), (m42, .inl (m42t, 4, .inl m42f)), (m44, .inl (m44t, 45, .inl m44f)), (m50, .inl (m50t, 45, .inl m50f)), (m51, .inl (m51t, 566, .inl m51f)), (m52, .inl (m52t, 36, .inr (.inl m52f))), (m53, .inl (m53t, 2, .inl m53f))], [])) := by
  refine z_ofV (cc := cX12_four) (maxL := 3) (by decide) rfl (Nat.le_of_ble_eq_true rfl) ?_
  intro p e s m below meth c Q A ls hx hb hml hown hts hin hK hP hD hA hE hO hS hl hret
  have hown : s.vm.findClass RX12 = some m.cls := hown
  have hiX12 : ∀ w ∈ wsX120, w ∈ wsX12_four := fun _ h9 => List.mem_cons_of_mem _ (List.mem_append_right _ h9)
  have hl : lv_has ls 3 [(0, .ref mo), (1, .int i0)] := hl
  refine lv_bipush (v := 24) hx hb dX12_four_0 (by decide) ?_
  refine lv_istore_n (lv' := [(2, .int 24), (0, .ref mo), (1, .int i0)]) hx hb dX12_four_2 rfl hl (by decide) rfl (fun ls hl => ?_)
  refine lv_iload_n hx hb dX12_four_3 rfl (lv_at hl 0 rfl) ?_
  refine lv_if_lt (tgt := 36) hx hb dX12_four_4 (by decide) (fun h9 => absurd h9 (by decide)) (fun _ => ?_)
  refine lv_aload_n hx hb dX12_four_7 rfl (lv_at hl 1 rfl) ?_
  refine va_get (D := D) (ci := 11) (v := .ref m1) (C := RX12) (T := TX12) (N := 54) hx hb hts hiX12 hown hK hP 0 rfl rfl 1 (by decide) (hts _ (List.mem_of_getElem? (i := 1) rfl)) (fun _ h9 => h9) rfl dX12_four_8 ?_
  refine lv_aload_n hx hb dX12_four_11 rfl (lv_at hl 1 rfl) ?_
  refine va_get (D := D) (ci := 11) (v := .int m2) (C := RX12) (T := TX12) (N := 54) hx hb hts hiX12 hown hK hP 0 rfl rfl 2 (by decide) (hts _ (List.mem_of_getElem? (i := 2) rfl)) (fun _ h9 => h9) rfl dX12_four_12 ?_
  refine lv_iload_n hx hb dX12_four_15 rfl (lv_at hl 2 rfl) ?_
  refine lv_iload_n hx hb dX12_four_16 rfl (lv_at hl 0 rfl) ?_
  refine lv_ishr hx hb dX12_four_17 ?_
  refine lv_topi (fun y_1 ey_1 => ?_)
  refine lv_i2b hx hb dX12_four_18 rfl ?_
  refine lv_topi (fun y_2 ey_2 => ?_)
  refine va_bast hx hb hK hP hD hS 1 0 rfl rfl (z_vp hm2 rfl) dX12_four_19 (fun H locs hP hD hS => ?_)
  generalize ef_3 : (upd m1f (m2 : Int32).toNatClampNeg (vp_nar .byte y_2)) = f_3 at hP hD
  have hP : va_P D vwCl [(mo, .inr (11, [.int m0, .ref m1, .int m2, .int m3, .int m4, .int m5, .ref m6, .ref m7, .ref m8, .ref m9, .ref m10, .int m11, .int m12, .int m13, .int m14, .int m15, .int m16, .long m17, .int m18, .int m19, .int m20, .ref m21, .ref m22, .int m23, .int m24, .int m25, .int m26, .ref m27, .int m28, .ref m29, .int m30, .int m31, .ref m32, .int m33, .ref m34, .ref m35, .int m36, .int m37, .ref m38, .int m39, .int m40, .int m41, .ref m42, .int m43, .ref m44, .int m45, .int m46, .int m47, .int m48, .int m49, .ref m50, .ref m51, .ref m52, .ref m53])), (m1, .inl (m1t, 940, .inl f_3)), (m6, .inl (m6t, 283, .inl m6f)), (m7, .inl (m7t, 67, .inl m7f)), (m8, .inl (m8t, 135, .inl m8f)), (m9, .inl (m9t, 36, .inr (.inl m9f))), (m10, .inl (m10t, 21, .inr (.inl m10f))), (m21, .inl (m21t, 280, .inl m21f)), (m22, .inl (m22t, 35, .inl m22f)), (m27, .inl (m27t, 4, .inl m27f)), (m29, .inl (m29t, 5, .inl m29f)), (m32, .inl (m32t, 7, .inl m32f)), (m34, .inl (m34t, 25, .inl m34f)), (m35, .inl (m35t, 25, .inl m35f)), (m38, .inl (m38t, 48, .inl m38f)), (m42, .inl (m42t, 4, .inl m42f)), (m44, .inl (m44t, 45, .inl m44f)), (m50, .inl (m50t, 45, .inl m50f)), (m51, .inl (m51t, 566, .inl m51f)), (m52, .inl (m52t, 36, .inr (.inl m52f))), (m53, .inl (m53t, 2, .inl m53f))] H := hP
  have hD : va_D A [(mo, .inr (11, [.int m0, .ref m1, .int m2, .int m3, .int m4, .int m5, .ref m6, .ref m7, .ref m8, .ref m9, .ref m10, .int m11, .int m12, .int m13, .int m14, .int m15, .int m16, .long m17, .int m18, .int m19, .int m20, .ref m21, .ref m22, .int m23, .int m24, .int m25, .int m26, .ref m27, .int m28, .ref m29, .int m30, .int m31, .ref m32, .int m33, .ref m34, .ref m35, .int m36, .int m37, .ref m38, .int m39, .int m40, .int m41, .ref m42, .int m43, .ref m44, .int m45, .int m46, .int m47, .int m48, .int m49, .ref m50, .ref m51, .ref m52, .ref m53])), (m1, .inl (m1t, 940, .inl f_3)), (m6, .inl (m6t, 283, .inl m6f)), (m7, .inl (m7t, 67, .inl m7f)), (m8, .inl (m8t, 135, .inl m8f)), (m9, .inl (m9t, 36, .inr (.inl m9f))), (m10, .inl (m10t, 21, .inr (.inl m10f))), (m21, .inl (m21t, 280, .inl m21f)), (m22, .inl (m22t, 35, .inl m22f)), (m27, .inl (m27t, 4, .inl m27f)), (m29, .inl (m29t, 5, .inl m29f)), (m32, .inl (m32t, 7, .inl m32f)), (m34, .inl (m34t, 25, .inl m34f)), (m35, .inl (m35t, 25, .inl m35f)), (m38, .inl (m38t, 48, .inl m38f)), (m42, .inl (m42t, 4, .inl m42f)), (m44, .inl (m44t, 45, .inl m44f)), (m50, .inl (m50t, 45, .inl m50f)), (m51, .inl (m51t, 566, .inl m51f)), (m52, .inl (m52t, 36, .inr (.inl m52f))), (m53, .inl (m53t, 2, .inl m53f))] := hD
  refine lv_aload_n hx hb dX12_four_20 rfl (lv_at hl 1 rfl) ?_
  refine lv_dup hx hb dX12_four_21 rfl ?_
  refine va_get (D := D) (ci := 11) (v := .int m2) (C := RX12) (T := TX12) (N := 54) hx hb hts hiX12 hown hK hP 0 rfl rfl 2 (by decide) (hts _ (List.mem_of_getElem? (i := 2) rfl)) (fun _ h9 => h9) rfl dX12_four_22 ?_
  refine lv_iconst (v := 1) hx hb dX12_four_25 (by decide) ?_
  refine lv_iadd hx hb dX12_four_26 ?_
  refine lv_topi (fun y_4 ey_4 => ?_)
  have h_5 : z_in 1 921 y_4 := by rw [ey_4]; exact z_add hm2 (z_lit (x := 1) (a := 1) (b := 1) rfl) rfl rfl
  have ty_4 : y_4.toInt = m2.toInt + 1 := by rw [ey_4]; exact (z_addT hm2 (z_lit (x := 1) (a := 1) (b := 1) rfl) rfl).trans rfl
  refine va_put (D := D) (ci := 11) (v := .int y_4) (ty := tyX12 2) (C := RX12) (T := TX12) (N := 54) hx hb hts hiX12 tyX12 tyX12_ok nmX12 hown hK hP hD hS 0 rfl rfl 2 (by decide) (hts _ (List.mem_of_getElem? (i := 2) rfl)) (fun _ h9 => h9) rfl (tyX12_ok 2 (by decide)) rfl rfl (Nat.le_of_ble_eq_true rfl) dX12_four_27 (fun H locs hP hD hS => ?_)
  have hP : va_P D vwCl [(mo, .inr (11, [.int m0, .ref m1, .int y_4, .int m3, .int m4, .int m5, .ref m6, .ref m7, .ref m8, .ref m9, .ref m10, .int m11, .int m12, .int m13, .int m14, .int m15, .int m16, .long m17, .int m18, .int m19, .int m20, .ref m21, .ref m22, .int m23, .int m24, .int m25, .int m26, .ref m27, .int m28, .ref m29, .int m30, .int m31, .ref m32, .int m33, .ref m34, .ref m35, .int m36, .int m37, .ref m38, .int m39, .int m40, .int m41, .ref m42, .int m43, .ref m44, .int m45, .int m46, .int m47, .int m48, .int m49, .ref m50, .ref m51, .ref m52, .ref m53])), (m1, .inl (m1t, 940, .inl f_3)), (m6, .inl (m6t, 283, .inl m6f)), (m7, .inl (m7t, 67, .inl m7f)), (m8, .inl (m8t, 135, .inl m8f)), (m9, .inl (m9t, 36, .inr (.inl m9f))), (m10, .inl (m10t, 21, .inr (.inl m10f))), (m21, .inl (m21t, 280, .inl m21f)), (m22, .inl (m22t, 35, .inl m22f)), (m27, .inl (m27t, 4, .inl m27f)), (m29, .inl (m29t, 5, .inl m29f)), (m32, .inl (m32t, 7, .inl m32f)), (m34, .inl (m34t, 25, .inl m34f)), (m35, .inl (m35t, 25, .inl m35f)), (m38, .inl (m38t, 48, .inl m38f)), (m42, .inl (m42t, 4, .inl m42f)), (m44, .inl (m44t, 45, .inl m44f)), (m50, .inl (m50t, 45, .inl m50f)), (m51, .inl (m51t, 566, .inl m51f)), (m52, .inl (m52t, 36, .inr (.inl m52f))), (m53, .inl (m53t, 2, .inl m53f))] H := hP
  have hD : va_D A [(mo, .inr (11, [.int m0, .ref m1, .int y_4, .int m3, .int m4, .int m5, .ref m6, .ref m7, .ref m8, .ref m9, .ref m10, .int m11, .int m12, .int m13, .int m14, .int m15, .int m16, .long m17, .int m18, .int m19, .int m20, .ref m21, .ref m22, .int m23, .int m24, .int m25, .int m26, .ref m27, .int m28, .ref m29, .int m30, .int m31, .ref m32, .int m33, .ref m34, .ref m35, .int m36, .int m37, .ref m38, .int m39, .int m40, .int m41, .ref m42, .int m43, .ref m44, .int m45, .int m46, .int m47, .int m48, .int m49, .ref m50, .ref m51, .ref m52, .ref m53])), (m1, .inl (m1t, 940, .inl f_3)), (m6, .inl (m6t, 283, .inl m6f)), (m7, .inl (m7t, 67, .inl m7f)), (m8, .inl (m8t, 135, .inl m8f)), (m9, .inl (m9t, 36, .inr (.inl m9f))), (m10, .inl (m10t, 21, .inr (.inl m10f))), (m21, .inl (m21t, 280, .inl m21f)), (m22, .inl (m22t, 35, .inl m22f)), (m27, .inl (m27t, 4, .inl m27f)), (m29, .inl (m29t, 5, .inl m29f)), (m32, .inl (m32t, 7, .inl m32f)), (m34, .inl (m34t, 25, .inl m34f)), (m35, .inl (m35t, 25, .inl m35f)), (m38, .inl (m38t, 48, .inl m38f)), (m42, .inl (m42t, 4, .inl m42f)), (m44, .inl (m44t, 45, .inl m44f)), (m50, .inl (m50t, 45, .inl m50f)), (m51, .inl (m51t, 566, .inl m51f)), (m52, .inl (m52t, 36, .inr (.inl m52f))), (m53, .inl (m53t, 2, .inl m53f))] := hD
  refine lv_iinc (v := 16) (lv' := [(2, .int 16), (0, .ref mo), (1, .int i0)]) hx hb dX12_four_30 hl (k := 0) rfl (by decide) (by decide) rfl (fun ls hl => ?_)
  refine lv_goto (tgt := 3) hx hb dX12_four_33 (by decide) ?_
  refine lv_iload_n hx hb dX12_four_3 rfl (lv_at hl 0 rfl) ?_
  refine lv_if_lt (tgt := 36) hx hb dX12_four_4 (by decide) (fun h9 => absurd h9 (by decide)) (fun _ => ?_)
  refine lv_aload_n hx hb dX12_four_7 rfl (lv_at hl 1 rfl) ?_
  refine va_get (D := D) (ci := 11) (v := .ref m1) (C := RX12) (T := TX12) (N := 54) hx hb hts hiX12 hown hK hP 0 rfl rfl 1 (by decide) (hts _ (List.mem_of_getElem? (i := 1) rfl)) (fun _ h9 => h9) rfl dX12_four_8 ?_
  refine lv_aload_n hx hb dX12_four_11 rfl (lv_at hl 1 rfl) ?_
  refine va_get (D := D) (ci := 11) (v := .int y_4) (C := RX12) (T := TX12) (N := 54) hx hb hts hiX12 hown hK hP 0 rfl rfl 2 (by decide) (hts _ (List.mem_of_getElem? (i := 2) rfl)) (fun _ h9 => h9) rfl dX12_four_12 ?_
  refine lv_iload_n hx hb dX12_four_15 rfl (lv_at hl 2 rfl) ?_
  refine lv_iload_n hx hb dX12_four_16 rfl (lv_at hl 0 rfl) ?_
  refine lv_ishr hx hb dX12_four_17 ?_
  refine lv_topi (fun y_6 ey_6 => ?_)
  refine lv_i2b hx hb dX12_four_18 rfl ?_
  refine lv_topi (fun y_7 ey_7 => ?_)
  refine va_bast hx hb hK hP hD hS 1 0 rfl rfl (z_vp h_5 rfl) dX12_four_19 (fun H locs hP hD hS => ?_)
  generalize ef_8 : (upd f_3 (y_4 : Int32).toNatClampNeg (vp_nar .byte y_7)) = f_8 at hP hD
  have hP : va_P D vwCl [(mo, .inr (11, [.int m0, .ref m1, .int y_4, .int m3, .int m4, .int m5, .ref m6, .ref m7, .ref m8, .ref m9, .ref m10, .int m11, .int m12, .int m13, .int m14, .int m15, .int m16, .long m17, .int m18, .int m19, .int m20, .ref m21, .ref m22, .int m23, .int m24, .int m25, .int m26, .ref m27, .int m28, .ref m29, .int m30, .int m31, .ref m32, .int m33, .ref m34, .ref m35, .int m36, .int m37, .ref m38, .int m39, .int m40, .int m41, .ref m42, .int m43, .ref m44, .int m45, .int m46, .int m47, .int m48, .int m49, .ref m50, .ref m51, .ref m52, .ref m53])), (m1, .inl (m1t, 940, .inl f_8)), (m6, .inl (m6t, 283, .inl m6f)), (m7, .inl (m7t, 67, .inl m7f)), (m8, .inl (m8t, 135, .inl m8f)), (m9, .inl (m9t, 36, .inr (.inl m9f))), (m10, .inl (m10t, 21, .inr (.inl m10f))), (m21, .inl (m21t, 280, .inl m21f)), (m22, .inl (m22t, 35, .inl m22f)), (m27, .inl (m27t, 4, .inl m27f)), (m29, .inl (m29t, 5, .inl m29f)), (m32, .inl (m32t, 7, .inl m32f)), (m34, .inl (m34t, 25, .inl m34f)), (m35, .inl (m35t, 25, .inl m35f)), (m38, .inl (m38t, 48, .inl m38f)), (m42, .inl (m42t, 4, .inl m42f)), (m44, .inl (m44t, 45, .inl m44f)), (m50, .inl (m50t, 45, .inl m50f)), (m51, .inl (m51t, 566, .inl m51f)), (m52, .inl (m52t, 36, .inr (.inl m52f))), (m53, .inl (m53t, 2, .inl m53f))] H := hP
  have hD : va_D A [(mo, .inr (11, [.int m0, .ref m1, .int y_4, .int m3, .int m4, .int m5, .ref m6, .ref m7, .ref m8, .ref m9, .ref m10, .int m11, .int m12, .int m13, .int m14, .int m15, .int m16, .long m17, .int m18, .int m19, .int m20, .ref m21, .ref m22, .int m23, .int m24, .int m25, .int m26, .ref m27, .int m28, .ref m29, .int m30, .int m31, .ref m32, .int m33, .ref m34, .ref m35, .int m36, .int m37, .ref m38, .int m39, .int m40, .int m41, .ref m42, .int m43, .ref m44, .int m45, .int m46, .int m47, .int m48, .int m49, .ref m50, .ref m51, .ref m52, .ref m53])), (m1, .inl (m1t, 940, .inl f_8)), (m6, .inl (m6t, 283, .inl m6f)), (m7, .inl (m7t, 67, .inl m7f)), (m8, .inl (m8t, 135, .inl m8f)), (m9, .inl (m9t, 36, .inr (.inl m9f))), (m10, .inl (m10t, 21, .inr (.inl m10f))), (m21, .inl (m21t, 280, .inl m21f)), (m22, .inl (m22t, 35, .inl m22f)), (m27, .inl (m27t, 4, .inl m27f)), (m29, .inl (m29t, 5, .inl m29f)), (m32, .inl (m32t, 7, .inl m32f)), (m34, .inl (m34t, 25, .inl m34f)), (m35, .inl (m35t, 25, .inl m35f)), (m38, .inl (m38t, 48, .inl m38f)), (m42, .inl (m42t, 4, .inl m42f)), (m44, .inl (m44t, 45, .inl m44f)), (m50, .inl (m50t, 45, .inl m50f)), (m51, .inl (m51t, 566, .inl m51f)), (m52, .inl (m52t, 36, .inr (.inl m52f))), (m53, .inl (m53t, 2, .inl m53f))] := hD
  refine lv_aload_n hx hb dX12_four_20 rfl (lv_at hl 1 rfl) ?_
  refine lv_dup hx hb dX12_four_21 rfl ?_
  refine va_get (D := D) (ci := 11) (v := .int y_4) (C := RX12) (T := TX12) (N := 54) hx hb hts hiX12 hown hK hP 0 rfl rfl 2 (by decide) (hts _ (List.mem_of_getElem? (i := 2) rfl)) (fun _ h9 => h9) rfl dX12_four_22 ?_
  refine lv_iconst (v := 1) hx hb dX12_four_25 (by decide) ?_
  refine lv_iadd hx hb dX12_four_26 ?_
  refine lv_topi (fun y_9 ey_9 => ?_)
  have h_10 : z_in 2 922 y_9 := by rw [ey_9]; exact z_add h_5 (z_lit (x := 1) (a := 1) (b := 1) rfl) rfl rfl
  have ty_9 : y_9.toInt = y_4.toInt + 1 := by rw [ey_9]; exact (z_addT h_5 (z_lit (x := 1) (a := 1) (b := 1) rfl) rfl).trans rfl
  refine va_put (D := D) (ci := 11) (v := .int y_9) (ty := tyX12 2) (C := RX12) (T := TX12) (N := 54) hx hb hts hiX12 tyX12 tyX12_ok nmX12 hown hK hP hD hS 0 rfl rfl 2 (by decide) (hts _ (List.mem_of_getElem? (i := 2) rfl)) (fun _ h9 => h9) rfl (tyX12_ok 2 (by decide)) rfl rfl (Nat.le_of_ble_eq_true rfl) dX12_four_27 (fun H locs hP hD hS => ?_)
  have hP : va_P D vwCl [(mo, .inr (11, [.int m0, .ref m1, .int y_9, .int m3, .int m4, .int m5, .ref m6, .ref m7, .ref m8, .ref m9, .ref m10, .int m11, .int m12, .int m13, .int m14, .int m15, .int m16, .long m17, .int m18, .int m19, .int m20, .ref m21, .ref m22, .int m23, .int m24, .int m25, .int m26, .ref m27, .int m28, .ref m29, .int m30, .int m31, .ref m32, .int m33, .ref m34, .ref m35, .int m36, .int m37, .ref m38, .int m39, .int m40, .int m41, .ref m42, .int m43, .ref m44, .int m45, .int m46, .int m47, .int m48, .int m49, .ref m50, .ref m51, .ref m52, .ref m53])), (m1, .inl (m1t, 940, .inl f_8)), (m6, .inl (m6t, 283, .inl m6f)), (m7, .inl (m7t, 67, .inl m7f)), (m8, .inl (m8t, 135, .inl m8f)), (m9, .inl (m9t, 36, .inr (.inl m9f))), (m10, .inl (m10t, 21, .inr (.inl m10f))), (m21, .inl (m21t, 280, .inl m21f)), (m22, .inl (m22t, 35, .inl m22f)), (m27, .inl (m27t, 4, .inl m27f)), (m29, .inl (m29t, 5, .inl m29f)), (m32, .inl (m32t, 7, .inl m32f)), (m34, .inl (m34t, 25, .inl m34f)), (m35, .inl (m35t, 25, .inl m35f)), (m38, .inl (m38t, 48, .inl m38f)), (m42, .inl (m42t, 4, .inl m42f)), (m44, .inl (m44t, 45, .inl m44f)), (m50, .inl (m50t, 45, .inl m50f)), (m51, .inl (m51t, 566, .inl m51f)), (m52, .inl (m52t, 36, .inr (.inl m52f))), (m53, .inl (m53t, 2, .inl m53f))] H := hP
  have hD : va_D A [(mo, .inr (11, [.int m0, .ref m1, .int y_9, .int m3, .int m4, .int m5, .ref m6, .ref m7, .ref m8, .ref m9, .ref m10, .int m11, .int m12, .int m13, .int m14, .int m15, .int m16, .long m17, .int m18, .int m19, .int m20, .ref m21, .ref m22, .int m23, .int m24, .int m25, .int m26, .ref m27, .int m28, .ref m29, .int m30, .int m31, .ref m32, .int m33, .ref m34, .ref m35, .int m36, .int m37, .ref m38, .int m39, .int m40, .int m41, .ref m42, .int m43, .ref m44, .int m45, .int m46, .int m47, .int m48, .int m49, .ref m50, .ref m51, .ref m52, .ref m53])), (m1, .inl (m1t, 940, .inl f_8)), (m6, .inl (m6t, 283, .inl m6f)), (m7, .inl (m7t, 67, .inl m7f)), (m8, .inl (m8t, 135, .inl m8f)), (m9, .inl (m9t, 36, .inr (.inl m9f))), (m10, .inl (m10t, 21, .inr (.inl m10f))), (m21, .inl (m21t, 280, .inl m21f)), (m22, .inl (m22t, 35, .inl m22f)), (m27, .inl (m27t, 4, .inl m27f)), (m29, .inl (m29t, 5, .inl m29f)), (m32, .inl (m32t, 7, .inl m32f)), (m34, .inl (m34t, 25, .inl m34f)), (m35, .inl (m35t, 25, .inl m35f)), (m38, .inl (m38t, 48, .inl m38f)), (m42, .inl (m42t, 4, .inl m42f)), (m44, .inl (m44t, 45, .inl m44f)), (m50, .inl (m50t, 45, .inl m50f)), (m51, .inl (m51t, 566, .inl m51f)), (m52, .inl (m52t, 36, .inr (.inl m52f))), (m53, .inl (m53t, 2, .inl m53f))] := hD
  refine lv_iinc (v := 8) (lv' := [(2, .int 8), (0, .ref mo), (1, .int i0)]) hx hb dX12_four_30 hl (k := 0) rfl (by decide) (by decide) rfl (fun ls hl => ?_)
  refine lv_goto (tgt := 3) hx hb dX12_four_33 (by decide) ?_
  refine lv_iload_n hx hb dX12_four_3 rfl (lv_at hl 0 rfl) ?_
  refine lv_if_lt (tgt := 36) hx hb dX12_four_4 (by decide) (fun h9 => absurd h9 (by decide)) (fun _ => ?_)
  refine lv_aload_n hx hb dX12_four_7 rfl (lv_at hl 1 rfl) ?_
  refine va_get (D := D) (ci := 11) (v := .ref m1) (C := RX12) (T := TX12) (N := 54) hx hb hts hiX12 hown hK hP 0 rfl rfl 1 (by decide) (hts _ (List.mem_of_getElem? (i := 1) rfl)) (fun _ h9 => h9) rfl dX12_four_8 ?_
  refine lv_aload_n hx hb dX12_four_11 rfl (lv_at hl 1 rfl) ?_
  refine va_get (D := D) (ci := 11) (v := .int y_9) (C := RX12) (T := TX12) (N := 54) hx hb hts hiX12 hown hK hP 0 rfl rfl 2 (by decide) (hts _ (List.mem_of_getElem? (i := 2) rfl)) (fun _ h9 => h9) rfl dX12_four_12 ?_
  refine lv_iload_n hx hb dX12_four_15 rfl (lv_at hl 2 rfl) ?_
  refine lv_iload_n hx hb dX12_four_16 rfl (lv_at hl 0 rfl) ?_
  refine lv_ishr hx hb dX12_four_17 ?_
  refine lv_topi (fun y_11 ey_11 => ?_)
  refine lv_i2b hx hb dX12_four_18 rfl ?_
  refine lv_topi (fun y_12 ey_12 => ?_)
  refine va_bast hx hb hK hP hD hS 1 0 rfl rfl (z_vp h_10 rfl) dX12_four_19 (fun H locs hP hD hS => ?_)
  generalize ef_13 : (upd f_8 (y_9 : Int32).toNatClampNeg (vp_nar .byte y_12)) = f_13 at hP hD
  have hP : va_P D vwCl [(mo, .inr (11, [.int m0, .ref m1, .int y_9, .int m3, .int m4, .int m5, .ref m6, .ref m7, .ref m8, .ref m9, .ref m10, .int m11, .int m12, .int m13, .int m14, .int m15, .int m16, .long m17, .int m18, .int m19, .int m20, .ref m21, .ref m22, .int m23, .int m24, .int m25, .int m26, .ref m27, .int m28, .ref m29, .int m30, .int m31, .ref m32, .int m33, .ref m34, .ref m35, .int m36, .int m37, .ref m38, .int m39, .int m40, .int m41, .ref m42, .int m43, .ref m44, .int m45, .int m46, .int m47, .int m48, .int m49, .ref m50, .ref m51, .ref m52, .ref m53])), (m1, .inl (m1t, 940, .inl f_13)), (m6, .inl (m6t, 283, .inl m6f)), (m7, .inl (m7t, 67, .inl m7f)), (m8, .inl (m8t, 135, .inl m8f)), (m9, .inl (m9t, 36, .inr (.inl m9f))), (m10, .inl (m10t, 21, .inr (.inl m10f))), (m21, .inl (m21t, 280, .inl m21f)), (m22, .inl (m22t, 35, .inl m22f)), (m27, .inl (m27t, 4, .inl m27f)), (m29, .inl (m29t, 5, .inl m29f)), (m32, .inl (m32t, 7, .inl m32f)), (m34, .inl (m34t, 25, .inl m34f)), (m35, .inl (m35t, 25, .inl m35f)), (m38, .inl (m38t, 48, .inl m38f)), (m42, .inl (m42t, 4, .inl m42f)), (m44, .inl (m44t, 45, .inl m44f)), (m50, .inl (m50t, 45, .inl m50f)), (m51, .inl (m51t, 566, .inl m51f)), (m52, .inl (m52t, 36, .inr (.inl m52f))), (m53, .inl (m53t, 2, .inl m53f))] H := hP
  have hD : va_D A [(mo, .inr (11, [.int m0, .ref m1, .int y_9, .int m3, .int m4, .int m5, .ref m6, .ref m7, .ref m8, .ref m9, .ref m10, .int m11, .int m12, .int m13, .int m14, .int m15, .int m16, .long m17, .int m18, .int m19, .int m20, .ref m21, .ref m22, .int m23, .int m24, .int m25, .int m26, .ref m27, .int m28, .ref m29, .int m30, .int m31, .ref m32, .int m33, .ref m34, .ref m35, .int m36, .int m37, .ref m38, .int m39, .int m40, .int m41, .ref m42, .int m43, .ref m44, .int m45, .int m46, .int m47, .int m48, .int m49, .ref m50, .ref m51, .ref m52, .ref m53])), (m1, .inl (m1t, 940, .inl f_13)), (m6, .inl (m6t, 283, .inl m6f)), (m7, .inl (m7t, 67, .inl m7f)), (m8, .inl (m8t, 135, .inl m8f)), (m9, .inl (m9t, 36, .inr (.inl m9f))), (m10, .inl (m10t, 21, .inr (.inl m10f))), (m21, .inl (m21t, 280, .inl m21f)), (m22, .inl (m22t, 35, .inl m22f)), (m27, .inl (m27t, 4, .inl m27f)), (m29, .inl (m29t, 5, .inl m29f)), (m32, .inl (m32t, 7, .inl m32f)), (m34, .inl (m34t, 25, .inl m34f)), (m35, .inl (m35t, 25, .inl m35f)), (m38, .inl (m38t, 48, .inl m38f)), (m42, .inl (m42t, 4, .inl m42f)), (m44, .inl (m44t, 45, .inl m44f)), (m50, .inl (m50t, 45, .inl m50f)), (m51, .inl (m51t, 566, .inl m51f)), (m52, .inl (m52t, 36, .inr (.inl m52f))), (m53, .inl (m53t, 2, .inl m53f))] := hD
  refine lv_aload_n hx hb dX12_four_20 rfl (lv_at hl 1 rfl) ?_
  refine lv_dup hx hb dX12_four_21 rfl ?_
  refine va_get (D := D) (ci := 11) (v := .int y_9) (C := RX12) (T := TX12) (N := 54) hx hb hts hiX12 hown hK hP 0 rfl rfl 2 (by decide) (hts _ (List.mem_of_getElem? (i := 2) rfl)) (fun _ h9 => h9) rfl dX12_four_22 ?_
  refine lv_iconst (v := 1) hx hb dX12_four_25 (by decide) ?_
  refine lv_iadd hx hb dX12_four_26 ?_
  refine lv_topi (fun y_14 ey_14 => ?_)
  have h_15 : z_in 3 923 y_14 := by rw [ey_14]; exact z_add h_10 (z_lit (x := 1) (a := 1) (b := 1) rfl) rfl rfl
  have ty_14 : y_14.toInt = y_9.toInt + 1 := by rw [ey_14]; exact (z_addT h_10 (z_lit (x := 1) (a := 1) (b := 1) rfl) rfl).trans rfl
  refine va_put (D := D) (ci := 11) (v := .int y_14) (ty := tyX12 2) (C := RX12) (T := TX12) (N := 54) hx hb hts hiX12 tyX12 tyX12_ok nmX12 hown hK hP hD hS 0 rfl rfl 2 (by decide) (hts _ (List.mem_of_getElem? (i := 2) rfl)) (fun _ h9 => h9) rfl (tyX12_ok 2 (by decide)) rfl rfl (Nat.le_of_ble_eq_true rfl) dX12_four_27 (fun H locs hP hD hS => ?_)
  have hP : va_P D vwCl [(mo, .inr (11, [.int m0, .ref m1, .int y_14, .int m3, .int m4, .int m5, .ref m6, .ref m7, .ref m8, .ref m9, .ref m10, .int m11, .int m12, .int m13, .int m14, .int m15, .int m16, .long m17, .int m18, .int m19, .int m20, .ref m21, .ref m22, .int m23, .int m24, .int m25, .int m26, .ref m27, .int m28, .ref m29, .int m30, .int m31, .ref m32, .int m33, .ref m34, .ref m35, .int m36, .int m37, .ref m38, .int m39, .int m40, .int m41, .ref m42, .int m43, .ref m44, .int m45, .int m46, .int m47, .int m48, .int m49, .ref m50, .ref m51, .ref m52, .ref m53])), (m1, .inl (m1t, 940, .inl f_13)), (m6, .inl (m6t, 283, .inl m6f)), (m7, .inl (m7t, 67, .inl m7f)), (m8, .inl (m8t, 135, .inl m8f)), (m9, .inl (m9t, 36, .inr (.inl m9f))), (m10, .inl (m10t, 21, .inr (.inl m10f))), (m21, .inl (m21t, 280, .inl m21f)), (m22, .inl (m22t, 35, .inl m22f)), (m27, .inl (m27t, 4, .inl m27f)), (m29, .inl (m29t, 5, .inl m29f)), (m32, .inl (m32t, 7, .inl m32f)), (m34, .inl (m34t, 25, .inl m34f)), (m35, .inl (m35t, 25, .inl m35f)), (m38, .inl (m38t, 48, .inl m38f)), (m42, .inl (m42t, 4, .inl m42f)), (m44, .inl (m44t, 45, .inl m44f)), (m50, .inl (m50t, 45, .inl m50f)), (m51, .inl (m51t, 566, .inl m51f)), (m52, .inl (m52t, 36, .inr (.inl m52f))), (m53, .inl (m53t, 2, .inl m53f))] H := hP
  have hD : va_D A [(mo, .inr (11, [.int m0, .ref m1, .int y_14, .int m3, .int m4, .int m5, .ref m6, .ref m7, .ref m8, .ref m9, .ref m10, .int m11, .int m12, .int m13, .int m14, .int m15, .int m16, .long m17, .int m18, .int m19, .int m20, .ref m21, .ref m22, .int m23, .int m24, .int m25, .int m26, .ref m27, .int m28, .ref m29, .int m30, .int m31, .ref m32, .int m33, .ref m34, .ref m35, .int m36, .int m37, .ref m38, .int m39, .int m40, .int m41, .ref m42, .int m43, .ref m44, .int m45, .int m46, .int m47, .int m48, .int m49, .ref m50, .ref m51, .ref m52, .ref m53])), (m1, .inl (m1t, 940, .inl f_13)), (m6, .inl (m6t, 283, .inl m6f)), (m7, .inl (m7t, 67, .inl m7f)), (m8, .inl (m8t, 135, .inl m8f)), (m9, .inl (m9t, 36, .inr (.inl m9f))), (m10, .inl (m10t, 21, .inr (.inl m10f))), (m21, .inl (m21t, 280, .inl m21f)), (m22, .inl (m22t, 35, .inl m22f)), (m27, .inl (m27t, 4, .inl m27f)), (m29, .inl (m29t, 5, .inl m29f)), (m32, .inl (m32t, 7, .inl m32f)), (m34, .inl (m34t, 25, .inl m34f)), (m35, .inl (m35t, 25, .inl m35f)), (m38, .inl (m38t, 48, .inl m38f)), (m42, .inl (m42t, 4, .inl m42f)), (m44, .inl (m44t, 45, .inl m44f)), (m50, .inl (m50t, 45, .inl m50f)), (m51, .inl (m51t, 566, .inl m51f)), (m52, .inl (m52t, 36, .inr (.inl m52f))), (m53, .inl (m53t, 2, .inl m53f))] := hD
  refine lv_iinc (v := 0) (lv' := [(2, .int 0), (0, .ref mo), (1, .int i0)]) hx hb dX12_four_30 hl (k := 0) rfl (by decide) (by decide) rfl (fun ls hl => ?_)
  refine lv_goto (tgt := 3) hx hb dX12_four_33 (by decide) ?_
  refine lv_iload_n hx hb dX12_four_3 rfl (lv_at hl 0 rfl) ?_
  refine lv_if_lt (tgt := 36) hx hb dX12_four_4 (by decide) (fun h9 => absurd h9 (by decide)) (fun _ => ?_)
  refine lv_aload_n hx hb dX12_four_7 rfl (lv_at hl 1 rfl) ?_
  refine va_get (D := D) (ci := 11) (v := .ref m1) (C := RX12) (T := TX12) (N := 54) hx hb hts hiX12 hown hK hP 0 rfl rfl 1 (by decide) (hts _ (List.mem_of_getElem? (i := 1) rfl)) (fun _ h9 => h9) rfl dX12_four_8 ?_
  refine lv_aload_n hx hb dX12_four_11 rfl (lv_at hl 1 rfl) ?_
  refine va_get (D := D) (ci := 11) (v := .int y_14) (C := RX12) (T := TX12) (N := 54) hx hb hts hiX12 hown hK hP 0 rfl rfl 2 (by decide) (hts _ (List.mem_of_getElem? (i := 2) rfl)) (fun _ h9 => h9) rfl dX12_four_12 ?_
  refine lv_iload_n hx hb dX12_four_15 rfl (lv_at hl 2 rfl) ?_
  refine lv_iload_n hx hb dX12_four_16 rfl (lv_at hl 0 rfl) ?_
  refine lv_ishr hx hb dX12_four_17 ?_
  refine lv_topi (fun y_16 ey_16 => ?_)
  refine lv_i2b hx hb dX12_four_18 rfl ?_
  refine lv_topi (fun y_17 ey_17 => ?_)
  refine va_bast hx hb hK hP hD hS 1 0 rfl rfl (z_vp h_15 rfl) dX12_four_19 (fun H locs hP hD hS => ?_)
  generalize ef_18 : (upd f_13 (y_14 : Int32).toNatClampNeg (vp_nar .byte y_17)) = f_18 at hP hD
  have hP : va_P D vwCl [(mo, .inr (11, [.int m0, .ref m1, .int y_14, .int m3, .int m4, .int m5, .ref m6, .ref m7, .ref m8, .ref m9, .ref m10, .int m11, .int m12, .int m13, .int m14, .int m15, .int m16, .long m17, .int m18, .int m19, .int m20, .ref m21, .ref m22, .int m23, .int m24, .int m25, .int m26, .ref m27, .int m28, .ref m29, .int m30, .int m31, .ref m32, .int m33, .ref m34, .ref m35, .int m36, .int m37, .ref m38, .int m39, .int m40, .int m41, .ref m42, .int m43, .ref m44, .int m45, .int m46, .int m47, .int m48, .int m49, .ref m50, .ref m51, .ref m52, .ref m53])), (m1, .inl (m1t, 940, .inl f_18)), (m6, .inl (m6t, 283, .inl m6f)), (m7, .inl (m7t, 67, .inl m7f)), (m8, .inl (m8t, 135, .inl m8f)), (m9, .inl (m9t, 36, .inr (.inl m9f))), (m10, .inl (m10t, 21, .inr (.inl m10f))), (m21, .inl (m21t, 280, .inl m21f)), (m22, .inl (m22t, 35, .inl m22f)), (m27, .inl (m27t, 4, .inl m27f)), (m29, .inl (m29t, 5, .inl m29f)), (m32, .inl (m32t, 7, .inl m32f)), (m34, .inl (m34t, 25, .inl m34f)), (m35, .inl (m35t, 25, .inl m35f)), (m38, .inl (m38t, 48, .inl m38f)), (m42, .inl (m42t, 4, .inl m42f)), (m44, .inl (m44t, 45, .inl m44f)), (m50, .inl (m50t, 45, .inl m50f)), (m51, .inl (m51t, 566, .inl m51f)), (m52, .inl (m52t, 36, .inr (.inl m52f))), (m53, .inl (m53t, 2, .inl m53f))] H := hP
  have hD : va_D A [(mo, .inr (11, [.int m0, .ref m1, .int y_14, .int m3, .int m4, .int m5, .ref m6, .ref m7, .ref m8, .ref m9, .ref m10, .int m11, .int m12, .int m13, .int m14, .int m15, .int m16, .long m17, .int m18, .int m19, .int m20, .ref m21, .ref m22, .int m23, .int m24, .int m25, .int m26, .ref m27, .int m28, .ref m29, .int m30, .int m31, .ref m32, .int m33, .ref m34, .ref m35, .int m36, .int m37, .ref m38, .int m39, .int m40, .int m41, .ref m42, .int m43, .ref m44, .int m45, .int m46, .int m47, .int m48, .int m49, .ref m50, .ref m51, .ref m52, .ref m53])), (m1, .inl (m1t, 940, .inl f_18)), (m6, .inl (m6t, 283, .inl m6f)), (m7, .inl (m7t, 67, .inl m7f)), (m8, .inl (m8t, 135, .inl m8f)), (m9, .inl (m9t, 36, .inr (.inl m9f))), (m10, .inl (m10t, 21, .inr (.inl m10f))), (m21, .inl (m21t, 280, .inl m21f)), (m22, .inl (m22t, 35, .inl m22f)), (m27, .inl (m27t, 4, .inl m27f)), (m29, .inl (m29t, 5, .inl m29f)), (m32, .inl (m32t, 7, .inl m32f)), (m34, .inl (m34t, 25, .inl m34f)), (m35, .inl (m35t, 25, .inl m35f)), (m38, .inl (m38t, 48, .inl m38f)), (m42, .inl (m42t, 4, .inl m42f)), (m44, .inl (m44t, 45, .inl m44f)), (m50, .inl (m50t, 45, .inl m50f)), (m51, .inl (m51t, 566, .inl m51f)), (m52, .inl (m52t, 36, .inr (.inl m52f))), (m53, .inl (m53t, 2, .inl m53f))] := hD
  refine lv_aload_n hx hb dX12_four_20 rfl (lv_at hl 1 rfl) ?_
  refine lv_dup hx hb dX12_four_21 rfl ?_
  refine va_get (D := D) (ci := 11) (v := .int y_14) (C := RX12) (T := TX12) (N := 54) hx hb hts hiX12 hown hK hP 0 rfl rfl 2 (by decide) (hts _ (List.mem_of_getElem? (i := 2) rfl)) (fun _ h9 => h9) rfl dX12_four_22 ?_
  refine lv_iconst (v := 1) hx hb dX12_four_25 (by decide) ?_
  refine lv_iadd hx hb dX12_four_26 ?_
  refine lv_topi (fun y_19 ey_19 => ?_)
  have h_20 : z_in 4 924 y_19 := by rw [ey_19]; exact z_add h_15 (z_lit (x := 1) (a := 1) (b := 1) rfl) rfl rfl
  have ty_19 : y_19.toInt = y_14.toInt + 1 := by rw [ey_19]; exact (z_addT h_15 (z_lit (x := 1) (a := 1) (b := 1) rfl) rfl).trans rfl
  refine va_put (D := D) (ci := 11) (v := .int y_19) (ty := tyX12 2) (C := RX12) (T := TX12) (N := 54) hx hb hts hiX12 tyX12 tyX12_ok nmX12 hown hK hP hD hS 0 rfl rfl 2 (by decide) (hts _ (List.mem_of_getElem? (i := 2) rfl)) (fun _ h9 => h9) rfl (tyX12_ok 2 (by decide)) rfl rfl (Nat.le_of_ble_eq_true rfl) dX12_four_27 (fun H locs hP hD hS => ?_)
  have hP : va_P D vwCl [(mo, .inr (11, [.int m0, .ref m1, .int y_19, .int m3, .int m4, .int m5, .ref m6, .ref m7, .ref m8, .ref m9, .ref m10, .int m11, .int m12, .int m13, .int m14, .int m15, .int m16, .long m17, .int m18, .int m19, .int m20, .ref m21, .ref m22, .int m23, .int m24, .int m25, .int m26, .ref m27, .int m28, .ref m29, .int m30, .int m31, .ref m32, .int m33, .ref m34, .ref m35, .int m36, .int m37, .ref m38, .int m39, .int m40, .int m41, .ref m42, .int m43, .ref m44, .int m45, .int m46, .int m47, .int m48, .int m49, .ref m50, .ref m51, .ref m52, .ref m53])), (m1, .inl (m1t, 940, .inl f_18)), (m6, .inl (m6t, 283, .inl m6f)), (m7, .inl (m7t, 67, .inl m7f)), (m8, .inl (m8t, 135, .inl m8f)), (m9, .inl (m9t, 36, .inr (.inl m9f))), (m10, .inl (m10t, 21, .inr (.inl m10f))), (m21, .inl (m21t, 280, .inl m21f)), (m22, .inl (m22t, 35, .inl m22f)), (m27, .inl (m27t, 4, .inl m27f)), (m29, .inl (m29t, 5, .inl m29f)), (m32, .inl (m32t, 7, .inl m32f)), (m34, .inl (m34t, 25, .inl m34f)), (m35, .inl (m35t, 25, .inl m35f)), (m38, .inl (m38t, 48, .inl m38f)), (m42, .inl (m42t, 4, .inl m42f)), (m44, .inl (m44t, 45, .inl m44f)), (m50, .inl (m50t, 45, .inl m50f)), (m51, .inl (m51t, 566, .inl m51f)), (m52, .inl (m52t, 36, .inr (.inl m52f))), (m53, .inl (m53t, 2, .inl m53f))] H := hP
  have hD : va_D A [(mo, .inr (11, [.int m0, .ref m1, .int y_19, .int m3, .int m4, .int m5, .ref m6, .ref m7, .ref m8, .ref m9, .ref m10, .int m11, .int m12, .int m13, .int m14, .int m15, .int m16, .long m17, .int m18, .int m19, .int m20, .ref m21, .ref m22, .int m23, .int m24, .int m25, .int m26, .ref m27, .int m28, .ref m29, .int m30, .int m31, .ref m32, .int m33, .ref m34, .ref m35, .int m36, .int m37, .ref m38, .int m39, .int m40, .int m41, .ref m42, .int m43, .ref m44, .int m45, .int m46, .int m47, .int m48, .int m49, .ref m50, .ref m51, .ref m52, .ref m53])), (m1, .inl (m1t, 940, .inl f_18)), (m6, .inl (m6t, 283, .inl m6f)), (m7, .inl (m7t, 67, .inl m7f)), (m8, .inl (m8t, 135, .inl m8f)), (m9, .inl (m9t, 36, .inr (.inl m9f))), (m10, .inl (m10t, 21, .inr (.inl m10f))), (m21, .inl (m21t, 280, .inl m21f)), (m22, .inl (m22t, 35, .inl m22f)), (m27, .inl (m27t, 4, .inl m27f)), (m29, .inl (m29t, 5, .inl m29f)), (m32, .inl (m32t, 7, .inl m32f)), (m34, .inl (m34t, 25, .inl m34f)), (m35, .inl (m35t, 25, .inl m35f)), (m38, .inl (m38t, 48, .inl m38f)), (m42, .inl (m42t, 4, .inl m42f)), (m44, .inl (m44t, 45, .inl m44f)), (m50, .inl (m50t, 45, .inl m50f)), (m51, .inl (m51t, 566, .inl m51f)), (m52, .inl (m52t, 36, .inr (.inl m52f))), (m53, .inl (m53t, 2, .inl m53f))] := hD
  refine lv_iinc (v := (-8)) (lv' := [(2, .int (-8)), (0, .ref mo), (1, .int i0)]) hx hb dX12_four_30 hl (k := 0) rfl (by decide) (by decide) rfl (fun ls hl => ?_)
  refine lv_goto (tgt := 3) hx hb dX12_four_33 (by decide) ?_
  refine lv_iload_n hx hb dX12_four_3 rfl (lv_at hl 0 rfl) ?_
  refine lv_if_lt (tgt := 36) hx hb dX12_four_4 (by decide) (fun _ => ?_) (fun h9 => absurd (by decide) h9)
  exact hret ([(mo, .inr (11, [.int m0, .ref m1, .int y_19, .int m3, .int m4, .int m5, .ref m6, .ref m7, .ref m8, .ref m9, .ref m10, .int m11, .int m12, .int m13, .int m14, .int m15, .int m16, .long m17, .int m18, .int m19, .int m20, .ref m21, .ref m22, .int m23, .int m24, .int m25, .int m26, .ref m27, .int m28, .ref m29, .int m30, .int m31, .ref m32, .int m33, .ref m34, .ref m35, .int m36, .int m37, .ref m38, .int m39, .int m40, .int m41, .ref m42, .int m43, .ref m44, .int m45, .int m46, .int m47, .int m48, .int m49, .ref m50, .ref m51, .ref m52, .ref m53])), (m1, .inl (m1t, 940, .inl f_18)), (m6, .inl (m6t, 283, .inl m6f)), (m7, .inl (m7t, 67, .inl m7f)), (m8, .inl (m8t, 135, .inl m8f)), (m9, .inl (m9t, 36, .inr (.inl m9f))), (m10, .inl (m10t, 21, .inr (.inl m10f))), (m21, .inl (m21t, 280, .inl m21f)), (m22, .inl (m22t, 35, .inl m22f)), (m27, .inl (m27t, 4, .inl m27f)), (m29, .inl (m29t, 5, .inl m29f)), (m32, .inl (m32t, 7, .inl m32f)), (m34, .inl (m34t, 25, .inl m34f)), (m35, .inl (m35t, 25, .inl m35f)), (m38, .inl (m38t, 48, .inl m38f)), (m42, .inl (m42t, 4, .inl m42f)), (m44, .inl (m44t, 45, .inl m44f)), (m50, .inl (m50t, 45, .inl m50f)), (m51, .inl (m51t, 566, .inl m51f)), (m52, .inl (m52t, 36, .inr (.inl m52f))), (m53, .inl (m53t, 2, .inl m53f))], []) _ _ _ _ dX12_four_36 ⟨y_19, f_18, h_20, (show z_a4 m2 y_19 from by have q0 := ty_19; have q1 := ty_14; have q2 := ty_9; have q3 := ty_4; unfold z_a4; omega), (z_m4I ef_3 ef_8 ef_13 ef_18 ey_2 ey_7 ey_12 ey_17 ey_1 ey_6 ey_11 ey_16 ty_4 ty_9 ty_14), rfl⟩ hP (hK.sub [] rfl) hD hS

set_option maxHeartbeats 8000000 in
set_option maxRecDepth 100000 in
theorem m_four924 (l : Launch) (D : va_G) (ad : Nat → Nat) (mo : Nat) (m0 : Int32) (m2 : Int32) (m3 : Int32) (m4 : Int32) (m5 : Int32) (m11 : Int32) (m12 : Int32) (m13 : Int32) (m14 : Int32) (m15 : Int32) (m16 : Int32) (m17 : Int64) (m18 : Int32) (m19 : Int32) (m20 : Int32) (m23 : Int32) (m24 : Int32) (m25 : Int32) (m26 : Int32) (m28 : Int32) (m30 : Int32) (m31 : Int32) (m33 : Int32) (m36 : Int32) (m37 : Int32) (m39 : Int32) (m40 : Int32) (m41 : Int32) (m43 : Int32) (m45 : Int32) (m46 : Int32) (m47 : Int32) (m48 : Int32) (m49 : Int32) (m1 : Nat) (m1t : ClassId) (m1f : Nat → Int32) (m6 : Nat) (m6t : ClassId) (m6f : Nat → Int32) (m7 : Nat) (m7t : ClassId) (m7f : Nat → Int32) (m8 : Nat) (m8t : ClassId) (m8f : Nat → Int32) (m9 : Nat) (m9t : ClassId) (m9f : Nat → Int64) (m10 : Nat) (m10t : ClassId) (m10f : Nat → Int64) (m21 : Nat) (m21t : ClassId) (m21f : Nat → Int32) (m22 : Nat) (m22t : ClassId) (m22f : Nat → Int32) (m27 : Nat) (m27t : ClassId) (m27f : Nat → Int32) (m29 : Nat) (m29t : ClassId) (m29f : Nat → Int32) (m32 : Nat) (m32t : ClassId) (m32f : Nat → Int32) (m34 : Nat) (m34t : ClassId) (m34f : Nat → Int32) (m35 : Nat) (m35t : ClassId) (m35f : Nat → Int32) (m38 : Nat) (m38t : ClassId) (m38f : Nat → Int32) (m42 : Nat) (m42t : ClassId) (m42f : Nat → Int32) (m44 : Nat) (m44t : ClassId) (m44f : Nat → Int32) (m50 : Nat) (m50t : ClassId) (m50f : Nat → Int32) (m51 : Nat) (m51t : ClassId) (m51f : Nat → Int32) (m52 : Nat) (m52t : ClassId) (m52f : Nat → Int64) (m53 : Nat) (m53t : ClassId) (m53f : Nat → Int32) (i0 : Int32) (hm2 : z_in 0 924 m2) (hm3 : z_in 0 940 m3) (hm4 : z_in 0 940 m4) (hm5 : z_in 0 940 m5) (hm11 : z_in 0 4 m11) (hm20 : z_in 0 1 m20) (hm23 : z_in 0 8 m23) (hm26 : z_in 0 1 m26) (hm28 : z_in (-1) 4 m28) (hm31 : z_in 0 1 m31) (hm33 : z_in (-1) 7 m33) (hm37 : z_in 0 1 m37) (hm39 : z_in 0 48 m39) (hm41 : z_in 0 40 m41) (hm43 : z_in 0 1 m43) (hm45 : z_in 0 45 m45) (hm46 : z_in 0 20 m46) (hm47 : z_in 0 45 m47) (hm49 : z_in 0 1 m49) (hm6f : z_sr m6f) (hm7f : z_hr m7f) (hm21f : z_ar rgU m21f) (hm22f : z_ar rgB m22f) (hm27f : z_al 0 4 m27f) (hm32f : z_al 0 4 m32f) (hm34f : z_al 0 1 m34f) (hm35f : z_al 0 1 m35f) (hm50f : z_al 0 1 m50f) (hm51f : z_ir m51f) (hm53f : z_al 0 1 m53f) : z_Mv l yX12_four wsX12_four { frames := 0, cells := 0, slots := 0, locals := 0 } D ad [.ref mo, .int i0] [(mo, .inr (11, [.int m0, .ref m1, .int m2, .int m3, .int m4, .int m5, .ref m6, .ref m7, .ref m8, .ref m9, .ref m10, .int m11, .int m12, .int m13, .int m14, .int m15, .int m16, .long m17, .int m18, .int m19, .int m20, .ref m21, .ref m22, .int m23, .int m24, .int m25, .int m26, .ref m27, .int m28, .ref m29, .int m30, .int m31, .ref m32, .int m33, .ref m34, .ref m35, .int m36, .int m37, .ref m38, .int m39, .int m40, .int m41, .ref m42, .int m43, .ref m44, .int m45, .int m46, .int m47, .int m48, .int m49, .ref m50, .ref m51, .ref m52, .ref m53])), (m1, .inl (m1t, 940, .inl m1f)), (m6, .inl (m6t, 283, .inl m6f)), (m7, .inl (m7t, 67, .inl m7f)), (m8, .inl (m8t, 135, .inl m8f)), (m9, .inl (m9t, 36, .inr (.inl m9f))), (m10, .inl (m10t, 21, .inr (.inl m10f))), (m21, .inl (m21t, 280, .inl m21f)), (m22, .inl (m22t, 35, .inl m22f)), (m27, .inl (m27t, 4, .inl m27f)), (m29, .inl (m29t, 5, .inl m29f)), (m32, .inl (m32t, 7, .inl m32f)), (m34, .inl (m34t, 25, .inl m34f)), (m35, .inl (m35t, 25, .inl m35f)), (m38, .inl (m38t, 48, .inl m38f)), (m42, .inl (m42t, 4, .inl m42f)), (m44, .inl (m44t, 45, .inl m44f)), (m50, .inl (m50t, 45, .inl m50f)), (m51, .inl (m51t, 566, .inl m51f)), (m52, .inl (m52t, 36, .inr (.inl m52f))), (m53, .inl (m53t, 2, .inl m53f))] [(m1t, .byte), (m6t, .int), (m7t, .int), (m8t, .int), (m9t, .long), (m10t, .long), (m21t, .int), (m22t, .int), (m27t, .int), (m29t, .int), (m32t, .int), (m34t, .boolean), (m35t, .boolean), (m38t, .byte), (m42t, .int), (m44t, .int), (m50t, .boolean), (m51t, .int), (m52t, .long), (m53t, .boolean)] 0 0 (fun u9 => ∃ (x0_2 : Int32) (x1_f : Nat → Int32), z_in 4 928 x0_2 ∧ z_a4 m2 x0_2 ∧ z_bn4 x1_f m1f m2 i0 ∧ u9 = ([(mo, .inr (11, [.int m0, .ref m1, .int x0_2, .int m3, .int m4, .int m5, .ref m6, .ref m7, .ref m8, .ref m9, .ref m10, .int m11, .int m12, .int m13, .int m14, .int m15, .int m16, .long m17, .int m18, .int m19, .int m20, .ref m21, .ref m22, .int m23, .int m24, .int m25, .int m26, .ref m27, .int m28, .ref m29, .int m30, .int m31, .ref m32, .int m33, .ref m34, .ref m35, .int m36, .int m37, .ref m38, .int m39, .int m40, .int m41, .ref m42, .int m43, .ref m44, .int m45, .int m46, .int m47, .int m48, .int m49, .ref m50, .ref m51, .ref m52, .ref m53])), (m1, .inl (m1t, 940, .inl x1_f)), (m6, .inl (m6t, 283, .inl m6f)), (m7, .inl (m7t, 67, .inl m7f)), (m8, .inl (m8t, 135, .inl m8f)), (m9, .inl (m9t, 36, .inr (.inl m9f))), (m10, .inl (m10t, 21, .inr (.inl m10f))), (m21, .inl (m21t, 280, .inl m21f)), (m22, .inl (m22t, 35, .inl m22f)), (m27, .inl (m27t, 4, .inl m27f)), (m29, .inl (m29t, 5, .inl m29f)), (m32, .inl (m32t, 7, .inl m32f)), (m34, .inl (m34t, 25, .inl m34f)), (m35, .inl (m35t, 25, .inl m35f)), (m38, .inl (m38t, 48, .inl m38f)), (m42, .inl (m42t, 4, .inl m42f)), (m44, .inl (m44t, 45, .inl m44f)), (m50, .inl (m50t, 45, .inl m50f)), (m51, .inl (m51t, 566, .inl m51f)), (m52, .inl (m52t, 36, .inr (.inl m52f))), (m53, .inl (m53t, 2, .inl m53f))], [])) := by
  refine z_ofV (cc := cX12_four) (maxL := 3) (by decide) rfl (Nat.le_of_ble_eq_true rfl) ?_
  intro p e s m below meth c Q A ls hx hb hml hown hts hin hK hP hD hA hE hO hS hl hret
  have hown : s.vm.findClass RX12 = some m.cls := hown
  have hiX12 : ∀ w ∈ wsX120, w ∈ wsX12_four := fun _ h9 => List.mem_cons_of_mem _ (List.mem_append_right _ h9)
  have hl : lv_has ls 3 [(0, .ref mo), (1, .int i0)] := hl
  refine lv_bipush (v := 24) hx hb dX12_four_0 (by decide) ?_
  refine lv_istore_n (lv' := [(2, .int 24), (0, .ref mo), (1, .int i0)]) hx hb dX12_four_2 rfl hl (by decide) rfl (fun ls hl => ?_)
  refine lv_iload_n hx hb dX12_four_3 rfl (lv_at hl 0 rfl) ?_
  refine lv_if_lt (tgt := 36) hx hb dX12_four_4 (by decide) (fun h9 => absurd h9 (by decide)) (fun _ => ?_)
  refine lv_aload_n hx hb dX12_four_7 rfl (lv_at hl 1 rfl) ?_
  refine va_get (D := D) (ci := 11) (v := .ref m1) (C := RX12) (T := TX12) (N := 54) hx hb hts hiX12 hown hK hP 0 rfl rfl 1 (by decide) (hts _ (List.mem_of_getElem? (i := 1) rfl)) (fun _ h9 => h9) rfl dX12_four_8 ?_
  refine lv_aload_n hx hb dX12_four_11 rfl (lv_at hl 1 rfl) ?_
  refine va_get (D := D) (ci := 11) (v := .int m2) (C := RX12) (T := TX12) (N := 54) hx hb hts hiX12 hown hK hP 0 rfl rfl 2 (by decide) (hts _ (List.mem_of_getElem? (i := 2) rfl)) (fun _ h9 => h9) rfl dX12_four_12 ?_
  refine lv_iload_n hx hb dX12_four_15 rfl (lv_at hl 2 rfl) ?_
  refine lv_iload_n hx hb dX12_four_16 rfl (lv_at hl 0 rfl) ?_
  refine lv_ishr hx hb dX12_four_17 ?_
  refine lv_topi (fun y_1 ey_1 => ?_)
  refine lv_i2b hx hb dX12_four_18 rfl ?_
  refine lv_topi (fun y_2 ey_2 => ?_)
  refine va_bast hx hb hK hP hD hS 1 0 rfl rfl (z_vp hm2 rfl) dX12_four_19 (fun H locs hP hD hS => ?_)
  generalize ef_3 : (upd m1f (m2 : Int32).toNatClampNeg (vp_nar .byte y_2)) = f_3 at hP hD
  have hP : va_P D vwCl [(mo, .inr (11, [.int m0, .ref m1, .int m2, .int m3, .int m4, .int m5, .ref m6, .ref m7, .ref m8, .ref m9, .ref m10, .int m11, .int m12, .int m13, .int m14, .int m15, .int m16, .long m17, .int m18, .int m19, .int m20, .ref m21, .ref m22, .int m23, .int m24, .int m25, .int m26, .ref m27, .int m28, .ref m29, .int m30, .int m31, .ref m32, .int m33, .ref m34, .ref m35, .int m36, .int m37, .ref m38, .int m39, .int m40, .int m41, .ref m42, .int m43, .ref m44, .int m45, .int m46, .int m47, .int m48, .int m49, .ref m50, .ref m51, .ref m52, .ref m53])), (m1, .inl (m1t, 940, .inl f_3)), (m6, .inl (m6t, 283, .inl m6f)), (m7, .inl (m7t, 67, .inl m7f)), (m8, .inl (m8t, 135, .inl m8f)), (m9, .inl (m9t, 36, .inr (.inl m9f))), (m10, .inl (m10t, 21, .inr (.inl m10f))), (m21, .inl (m21t, 280, .inl m21f)), (m22, .inl (m22t, 35, .inl m22f)), (m27, .inl (m27t, 4, .inl m27f)), (m29, .inl (m29t, 5, .inl m29f)), (m32, .inl (m32t, 7, .inl m32f)), (m34, .inl (m34t, 25, .inl m34f)), (m35, .inl (m35t, 25, .inl m35f)), (m38, .inl (m38t, 48, .inl m38f)), (m42, .inl (m42t, 4, .inl m42f)), (m44, .inl (m44t, 45, .inl m44f)), (m50, .inl (m50t, 45, .inl m50f)), (m51, .inl (m51t, 566, .inl m51f)), (m52, .inl (m52t, 36, .inr (.inl m52f))), (m53, .inl (m53t, 2, .inl m53f))] H := hP
  have hD : va_D A [(mo, .inr (11, [.int m0, .ref m1, .int m2, .int m3, .int m4, .int m5, .ref m6, .ref m7, .ref m8, .ref m9, .ref m10, .int m11, .int m12, .int m13, .int m14, .int m15, .int m16, .long m17, .int m18, .int m19, .int m20, .ref m21, .ref m22, .int m23, .int m24, .int m25, .int m26, .ref m27, .int m28, .ref m29, .int m30, .int m31, .ref m32, .int m33, .ref m34, .ref m35, .int m36, .int m37, .ref m38, .int m39, .int m40, .int m41, .ref m42, .int m43, .ref m44, .int m45, .int m46, .int m47, .int m48, .int m49, .ref m50, .ref m51, .ref m52, .ref m53])), (m1, .inl (m1t, 940, .inl f_3)), (m6, .inl (m6t, 283, .inl m6f)), (m7, .inl (m7t, 67, .inl m7f)), (m8, .inl (m8t, 135, .inl m8f)), (m9, .inl (m9t, 36, .inr (.inl m9f))), (m10, .inl (m10t, 21, .inr (.inl m10f))), (m21, .inl (m21t, 280, .inl m21f)), (m22, .inl (m22t, 35, .inl m22f)), (m27, .inl (m27t, 4, .inl m27f)), (m29, .inl (m29t, 5, .inl m29f)), (m32, .inl (m32t, 7, .inl m32f)), (m34, .inl (m34t, 25, .inl m34f)), (m35, .inl (m35t, 25, .inl m35f)), (m38, .inl (m38t, 48, .inl m38f)), (m42, .inl (m42t, 4, .inl m42f)), (m44, .inl (m44t, 45, .inl m44f)), (m50, .inl (m50t, 45, .inl m50f)), (m51, .inl (m51t, 566, .inl m51f)), (m52, .inl (m52t, 36, .inr (.inl m52f))), (m53, .inl (m53t, 2, .inl m53f))] := hD
  refine lv_aload_n hx hb dX12_four_20 rfl (lv_at hl 1 rfl) ?_
  refine lv_dup hx hb dX12_four_21 rfl ?_
  refine va_get (D := D) (ci := 11) (v := .int m2) (C := RX12) (T := TX12) (N := 54) hx hb hts hiX12 hown hK hP 0 rfl rfl 2 (by decide) (hts _ (List.mem_of_getElem? (i := 2) rfl)) (fun _ h9 => h9) rfl dX12_four_22 ?_
  refine lv_iconst (v := 1) hx hb dX12_four_25 (by decide) ?_
  refine lv_iadd hx hb dX12_four_26 ?_
  refine lv_topi (fun y_4 ey_4 => ?_)
  have h_5 : z_in 1 925 y_4 := by rw [ey_4]; exact z_add hm2 (z_lit (x := 1) (a := 1) (b := 1) rfl) rfl rfl
  have ty_4 : y_4.toInt = m2.toInt + 1 := by rw [ey_4]; exact (z_addT hm2 (z_lit (x := 1) (a := 1) (b := 1) rfl) rfl).trans rfl
  refine va_put (D := D) (ci := 11) (v := .int y_4) (ty := tyX12 2) (C := RX12) (T := TX12) (N := 54) hx hb hts hiX12 tyX12 tyX12_ok nmX12 hown hK hP hD hS 0 rfl rfl 2 (by decide) (hts _ (List.mem_of_getElem? (i := 2) rfl)) (fun _ h9 => h9) rfl (tyX12_ok 2 (by decide)) rfl rfl (Nat.le_of_ble_eq_true rfl) dX12_four_27 (fun H locs hP hD hS => ?_)
  have hP : va_P D vwCl [(mo, .inr (11, [.int m0, .ref m1, .int y_4, .int m3, .int m4, .int m5, .ref m6, .ref m7, .ref m8, .ref m9, .ref m10, .int m11, .int m12, .int m13, .int m14, .int m15, .int m16, .long m17, .int m18, .int m19, .int m20, .ref m21, .ref m22, .int m23, .int m24, .int m25, .int m26, .ref m27, .int m28, .ref m29, .int m30, .int m31, .ref m32, .int m33, .ref m34, .ref m35, .int m36, .int m37, .ref m38, .int m39, .int m40, .int m41, .ref m42, .int m43, .ref m44, .int m45, .int m46, .int m47, .int m48, .int m49, .ref m50, .ref m51, .ref m52, .ref m53])), (m1, .inl (m1t, 940, .inl f_3)), (m6, .inl (m6t, 283, .inl m6f)), (m7, .inl (m7t, 67, .inl m7f)), (m8, .inl (m8t, 135, .inl m8f)), (m9, .inl (m9t, 36, .inr (.inl m9f))), (m10, .inl (m10t, 21, .inr (.inl m10f))), (m21, .inl (m21t, 280, .inl m21f)), (m22, .inl (m22t, 35, .inl m22f)), (m27, .inl (m27t, 4, .inl m27f)), (m29, .inl (m29t, 5, .inl m29f)), (m32, .inl (m32t, 7, .inl m32f)), (m34, .inl (m34t, 25, .inl m34f)), (m35, .inl (m35t, 25, .inl m35f)), (m38, .inl (m38t, 48, .inl m38f)), (m42, .inl (m42t, 4, .inl m42f)), (m44, .inl (m44t, 45, .inl m44f)), (m50, .inl (m50t, 45, .inl m50f)), (m51, .inl (m51t, 566, .inl m51f)), (m52, .inl (m52t, 36, .inr (.inl m52f))), (m53, .inl (m53t, 2, .inl m53f))] H := hP
  have hD : va_D A [(mo, .inr (11, [.int m0, .ref m1, .int y_4, .int m3, .int m4, .int m5, .ref m6, .ref m7, .ref m8, .ref m9, .ref m10, .int m11, .int m12, .int m13, .int m14, .int m15, .int m16, .long m17, .int m18, .int m19, .int m20, .ref m21, .ref m22, .int m23, .int m24, .int m25, .int m26, .ref m27, .int m28, .ref m29, .int m30, .int m31, .ref m32, .int m33, .ref m34, .ref m35, .int m36, .int m37, .ref m38, .int m39, .int m40, .int m41, .ref m42, .int m43, .ref m44, .int m45, .int m46, .int m47, .int m48, .int m49, .ref m50, .ref m51, .ref m52, .ref m53])), (m1, .inl (m1t, 940, .inl f_3)), (m6, .inl (m6t, 283, .inl m6f)), (m7, .inl (m7t, 67, .inl m7f)), (m8, .inl (m8t, 135, .inl m8f)), (m9, .inl (m9t, 36, .inr (.inl m9f))), (m10, .inl (m10t, 21, .inr (.inl m10f))), (m21, .inl (m21t, 280, .inl m21f)), (m22, .inl (m22t, 35, .inl m22f)), (m27, .inl (m27t, 4, .inl m27f)), (m29, .inl (m29t, 5, .inl m29f)), (m32, .inl (m32t, 7, .inl m32f)), (m34, .inl (m34t, 25, .inl m34f)), (m35, .inl (m35t, 25, .inl m35f)), (m38, .inl (m38t, 48, .inl m38f)), (m42, .inl (m42t, 4, .inl m42f)), (m44, .inl (m44t, 45, .inl m44f)), (m50, .inl (m50t, 45, .inl m50f)), (m51, .inl (m51t, 566, .inl m51f)), (m52, .inl (m52t, 36, .inr (.inl m52f))), (m53, .inl (m53t, 2, .inl m53f))] := hD
  refine lv_iinc (v := 16) (lv' := [(2, .int 16), (0, .ref mo), (1, .int i0)]) hx hb dX12_four_30 hl (k := 0) rfl (by decide) (by decide) rfl (fun ls hl => ?_)
  refine lv_goto (tgt := 3) hx hb dX12_four_33 (by decide) ?_
  refine lv_iload_n hx hb dX12_four_3 rfl (lv_at hl 0 rfl) ?_
  refine lv_if_lt (tgt := 36) hx hb dX12_four_4 (by decide) (fun h9 => absurd h9 (by decide)) (fun _ => ?_)
  refine lv_aload_n hx hb dX12_four_7 rfl (lv_at hl 1 rfl) ?_
  refine va_get (D := D) (ci := 11) (v := .ref m1) (C := RX12) (T := TX12) (N := 54) hx hb hts hiX12 hown hK hP 0 rfl rfl 1 (by decide) (hts _ (List.mem_of_getElem? (i := 1) rfl)) (fun _ h9 => h9) rfl dX12_four_8 ?_
  refine lv_aload_n hx hb dX12_four_11 rfl (lv_at hl 1 rfl) ?_
  refine va_get (D := D) (ci := 11) (v := .int y_4) (C := RX12) (T := TX12) (N := 54) hx hb hts hiX12 hown hK hP 0 rfl rfl 2 (by decide) (hts _ (List.mem_of_getElem? (i := 2) rfl)) (fun _ h9 => h9) rfl dX12_four_12 ?_
  refine lv_iload_n hx hb dX12_four_15 rfl (lv_at hl 2 rfl) ?_
  refine lv_iload_n hx hb dX12_four_16 rfl (lv_at hl 0 rfl) ?_
  refine lv_ishr hx hb dX12_four_17 ?_
  refine lv_topi (fun y_6 ey_6 => ?_)
  refine lv_i2b hx hb dX12_four_18 rfl ?_
  refine lv_topi (fun y_7 ey_7 => ?_)
  refine va_bast hx hb hK hP hD hS 1 0 rfl rfl (z_vp h_5 rfl) dX12_four_19 (fun H locs hP hD hS => ?_)
  generalize ef_8 : (upd f_3 (y_4 : Int32).toNatClampNeg (vp_nar .byte y_7)) = f_8 at hP hD
  have hP : va_P D vwCl [(mo, .inr (11, [.int m0, .ref m1, .int y_4, .int m3, .int m4, .int m5, .ref m6, .ref m7, .ref m8, .ref m9, .ref m10, .int m11, .int m12, .int m13, .int m14, .int m15, .int m16, .long m17, .int m18, .int m19, .int m20, .ref m21, .ref m22, .int m23, .int m24, .int m25, .int m26, .ref m27, .int m28, .ref m29, .int m30, .int m31, .ref m32, .int m33, .ref m34, .ref m35, .int m36, .int m37, .ref m38, .int m39, .int m40, .int m41, .ref m42, .int m43, .ref m44, .int m45, .int m46, .int m47, .int m48, .int m49, .ref m50, .ref m51, .ref m52, .ref m53])), (m1, .inl (m1t, 940, .inl f_8)), (m6, .inl (m6t, 283, .inl m6f)), (m7, .inl (m7t, 67, .inl m7f)), (m8, .inl (m8t, 135, .inl m8f)), (m9, .inl (m9t, 36, .inr (.inl m9f))), (m10, .inl (m10t, 21, .inr (.inl m10f))), (m21, .inl (m21t, 280, .inl m21f)), (m22, .inl (m22t, 35, .inl m22f)), (m27, .inl (m27t, 4, .inl m27f)), (m29, .inl (m29t, 5, .inl m29f)), (m32, .inl (m32t, 7, .inl m32f)), (m34, .inl (m34t, 25, .inl m34f)), (m35, .inl (m35t, 25, .inl m35f)), (m38, .inl (m38t, 48, .inl m38f)), (m42, .inl (m42t, 4, .inl m42f)), (m44, .inl (m44t, 45, .inl m44f)), (m50, .inl (m50t, 45, .inl m50f)), (m51, .inl (m51t, 566, .inl m51f)), (m52, .inl (m52t, 36, .inr (.inl m52f))), (m53, .inl (m53t, 2, .inl m53f))] H := hP
  have hD : va_D A [(mo, .inr (11, [.int m0, .ref m1, .int y_4, .int m3, .int m4, .int m5, .ref m6, .ref m7, .ref m8, .ref m9, .ref m10, .int m11, .int m12, .int m13, .int m14, .int m15, .int m16, .long m17, .int m18, .int m19, .int m20, .ref m21, .ref m22, .int m23, .int m24, .int m25, .int m26, .ref m27, .int m28, .ref m29, .int m30, .int m31, .ref m32, .int m33, .ref m34, .ref m35, .int m36, .int m37, .ref m38, .int m39, .int m40, .int m41, .ref m42, .int m43, .ref m44, .int m45, .int m46, .int m47, .int m48, .int m49, .ref m50, .ref m51, .ref m52, .ref m53])), (m1, .inl (m1t, 940, .inl f_8)), (m6, .inl (m6t, 283, .inl m6f)), (m7, .inl (m7t, 67, .inl m7f)), (m8, .inl (m8t, 135, .inl m8f)), (m9, .inl (m9t, 36, .inr (.inl m9f))), (m10, .inl (m10t, 21, .inr (.inl m10f))), (m21, .inl (m21t, 280, .inl m21f)), (m22, .inl (m22t, 35, .inl m22f)), (m27, .inl (m27t, 4, .inl m27f)), (m29, .inl (m29t, 5, .inl m29f)), (m32, .inl (m32t, 7, .inl m32f)), (m34, .inl (m34t, 25, .inl m34f)), (m35, .inl (m35t, 25, .inl m35f)), (m38, .inl (m38t, 48, .inl m38f)), (m42, .inl (m42t, 4, .inl m42f)), (m44, .inl (m44t, 45, .inl m44f)), (m50, .inl (m50t, 45, .inl m50f)), (m51, .inl (m51t, 566, .inl m51f)), (m52, .inl (m52t, 36, .inr (.inl m52f))), (m53, .inl (m53t, 2, .inl m53f))] := hD
  refine lv_aload_n hx hb dX12_four_20 rfl (lv_at hl 1 rfl) ?_
  refine lv_dup hx hb dX12_four_21 rfl ?_
  refine va_get (D := D) (ci := 11) (v := .int y_4) (C := RX12) (T := TX12) (N := 54) hx hb hts hiX12 hown hK hP 0 rfl rfl 2 (by decide) (hts _ (List.mem_of_getElem? (i := 2) rfl)) (fun _ h9 => h9) rfl dX12_four_22 ?_
  refine lv_iconst (v := 1) hx hb dX12_four_25 (by decide) ?_
  refine lv_iadd hx hb dX12_four_26 ?_
  refine lv_topi (fun y_9 ey_9 => ?_)
  have h_10 : z_in 2 926 y_9 := by rw [ey_9]; exact z_add h_5 (z_lit (x := 1) (a := 1) (b := 1) rfl) rfl rfl
  have ty_9 : y_9.toInt = y_4.toInt + 1 := by rw [ey_9]; exact (z_addT h_5 (z_lit (x := 1) (a := 1) (b := 1) rfl) rfl).trans rfl
  refine va_put (D := D) (ci := 11) (v := .int y_9) (ty := tyX12 2) (C := RX12) (T := TX12) (N := 54) hx hb hts hiX12 tyX12 tyX12_ok nmX12 hown hK hP hD hS 0 rfl rfl 2 (by decide) (hts _ (List.mem_of_getElem? (i := 2) rfl)) (fun _ h9 => h9) rfl (tyX12_ok 2 (by decide)) rfl rfl (Nat.le_of_ble_eq_true rfl) dX12_four_27 (fun H locs hP hD hS => ?_)
  have hP : va_P D vwCl [(mo, .inr (11, [.int m0, .ref m1, .int y_9, .int m3, .int m4, .int m5, .ref m6, .ref m7, .ref m8, .ref m9, .ref m10, .int m11, .int m12, .int m13, .int m14, .int m15, .int m16, .long m17, .int m18, .int m19, .int m20, .ref m21, .ref m22, .int m23, .int m24, .int m25, .int m26, .ref m27, .int m28, .ref m29, .int m30, .int m31, .ref m32, .int m33, .ref m34, .ref m35, .int m36, .int m37, .ref m38, .int m39, .int m40, .int m41, .ref m42, .int m43, .ref m44, .int m45, .int m46, .int m47, .int m48, .int m49, .ref m50, .ref m51, .ref m52, .ref m53])), (m1, .inl (m1t, 940, .inl f_8)), (m6, .inl (m6t, 283, .inl m6f)), (m7, .inl (m7t, 67, .inl m7f)), (m8, .inl (m8t, 135, .inl m8f)), (m9, .inl (m9t, 36, .inr (.inl m9f))), (m10, .inl (m10t, 21, .inr (.inl m10f))), (m21, .inl (m21t, 280, .inl m21f)), (m22, .inl (m22t, 35, .inl m22f)), (m27, .inl (m27t, 4, .inl m27f)), (m29, .inl (m29t, 5, .inl m29f)), (m32, .inl (m32t, 7, .inl m32f)), (m34, .inl (m34t, 25, .inl m34f)), (m35, .inl (m35t, 25, .inl m35f)), (m38, .inl (m38t, 48, .inl m38f)), (m42, .inl (m42t, 4, .inl m42f)), (m44, .inl (m44t, 45, .inl m44f)), (m50, .inl (m50t, 45, .inl m50f)), (m51, .inl (m51t, 566, .inl m51f)), (m52, .inl (m52t, 36, .inr (.inl m52f))), (m53, .inl (m53t, 2, .inl m53f))] H := hP
  have hD : va_D A [(mo, .inr (11, [.int m0, .ref m1, .int y_9, .int m3, .int m4, .int m5, .ref m6, .ref m7, .ref m8, .ref m9, .ref m10, .int m11, .int m12, .int m13, .int m14, .int m15, .int m16, .long m17, .int m18, .int m19, .int m20, .ref m21, .ref m22, .int m23, .int m24, .int m25, .int m26, .ref m27, .int m28, .ref m29, .int m30, .int m31, .ref m32, .int m33, .ref m34, .ref m35, .int m36, .int m37, .ref m38, .int m39, .int m40, .int m41, .ref m42, .int m43, .ref m44, .int m45, .int m46, .int m47, .int m48, .int m49, .ref m50, .ref m51, .ref m52, .ref m53])), (m1, .inl (m1t, 940, .inl f_8)), (m6, .inl (m6t, 283, .inl m6f)), (m7, .inl (m7t, 67, .inl m7f)), (m8, .inl (m8t, 135, .inl m8f)), (m9, .inl (m9t, 36, .inr (.inl m9f))), (m10, .inl (m10t, 21, .inr (.inl m10f))), (m21, .inl (m21t, 280, .inl m21f)), (m22, .inl (m22t, 35, .inl m22f)), (m27, .inl (m27t, 4, .inl m27f)), (m29, .inl (m29t, 5, .inl m29f)), (m32, .inl (m32t, 7, .inl m32f)), (m34, .inl (m34t, 25, .inl m34f)), (m35, .inl (m35t, 25, .inl m35f)), (m38, .inl (m38t, 48, .inl m38f)), (m42, .inl (m42t, 4, .inl m42f)), (m44, .inl (m44t, 45, .inl m44f)), (m50, .inl (m50t, 45, .inl m50f)), (m51, .inl (m51t, 566, .inl m51f)), (m52, .inl (m52t, 36, .inr (.inl m52f))), (m53, .inl (m53t, 2, .inl m53f))] := hD
  refine lv_iinc (v := 8) (lv' := [(2, .int 8), (0, .ref mo), (1, .int i0)]) hx hb dX12_four_30 hl (k := 0) rfl (by decide) (by decide) rfl (fun ls hl => ?_)
  refine lv_goto (tgt := 3) hx hb dX12_four_33 (by decide) ?_
  refine lv_iload_n hx hb dX12_four_3 rfl (lv_at hl 0 rfl) ?_
  refine lv_if_lt (tgt := 36) hx hb dX12_four_4 (by decide) (fun h9 => absurd h9 (by decide)) (fun _ => ?_)
  refine lv_aload_n hx hb dX12_four_7 rfl (lv_at hl 1 rfl) ?_
  refine va_get (D := D) (ci := 11) (v := .ref m1) (C := RX12) (T := TX12) (N := 54) hx hb hts hiX12 hown hK hP 0 rfl rfl 1 (by decide) (hts _ (List.mem_of_getElem? (i := 1) rfl)) (fun _ h9 => h9) rfl dX12_four_8 ?_
  refine lv_aload_n hx hb dX12_four_11 rfl (lv_at hl 1 rfl) ?_
  refine va_get (D := D) (ci := 11) (v := .int y_9) (C := RX12) (T := TX12) (N := 54) hx hb hts hiX12 hown hK hP 0 rfl rfl 2 (by decide) (hts _ (List.mem_of_getElem? (i := 2) rfl)) (fun _ h9 => h9) rfl dX12_four_12 ?_
  refine lv_iload_n hx hb dX12_four_15 rfl (lv_at hl 2 rfl) ?_
  refine lv_iload_n hx hb dX12_four_16 rfl (lv_at hl 0 rfl) ?_
  refine lv_ishr hx hb dX12_four_17 ?_
  refine lv_topi (fun y_11 ey_11 => ?_)
  refine lv_i2b hx hb dX12_four_18 rfl ?_
  refine lv_topi (fun y_12 ey_12 => ?_)
  refine va_bast hx hb hK hP hD hS 1 0 rfl rfl (z_vp h_10 rfl) dX12_four_19 (fun H locs hP hD hS => ?_)
  generalize ef_13 : (upd f_8 (y_9 : Int32).toNatClampNeg (vp_nar .byte y_12)) = f_13 at hP hD
  have hP : va_P D vwCl [(mo, .inr (11, [.int m0, .ref m1, .int y_9, .int m3, .int m4, .int m5, .ref m6, .ref m7, .ref m8, .ref m9, .ref m10, .int m11, .int m12, .int m13, .int m14, .int m15, .int m16, .long m17, .int m18, .int m19, .int m20, .ref m21, .ref m22, .int m23, .int m24, .int m25, .int m26, .ref m27, .int m28, .ref m29, .int m30, .int m31, .ref m32, .int m33, .ref m34, .ref m35, .int m36, .int m37, .ref m38, .int m39, .int m40, .int m41, .ref m42, .int m43, .ref m44, .int m45, .int m46, .int m47, .int m48, .int m49, .ref m50, .ref m51, .ref m52, .ref m53])), (m1, .inl (m1t, 940, .inl f_13)), (m6, .inl (m6t, 283, .inl m6f)), (m7, .inl (m7t, 67, .inl m7f)), (m8, .inl (m8t, 135, .inl m8f)), (m9, .inl (m9t, 36, .inr (.inl m9f))), (m10, .inl (m10t, 21, .inr (.inl m10f))), (m21, .inl (m21t, 280, .inl m21f)), (m22, .inl (m22t, 35, .inl m22f)), (m27, .inl (m27t, 4, .inl m27f)), (m29, .inl (m29t, 5, .inl m29f)), (m32, .inl (m32t, 7, .inl m32f)), (m34, .inl (m34t, 25, .inl m34f)), (m35, .inl (m35t, 25, .inl m35f)), (m38, .inl (m38t, 48, .inl m38f)), (m42, .inl (m42t, 4, .inl m42f)), (m44, .inl (m44t, 45, .inl m44f)), (m50, .inl (m50t, 45, .inl m50f)), (m51, .inl (m51t, 566, .inl m51f)), (m52, .inl (m52t, 36, .inr (.inl m52f))), (m53, .inl (m53t, 2, .inl m53f))] H := hP
  have hD : va_D A [(mo, .inr (11, [.int m0, .ref m1, .int y_9, .int m3, .int m4, .int m5, .ref m6, .ref m7, .ref m8, .ref m9, .ref m10, .int m11, .int m12, .int m13, .int m14, .int m15, .int m16, .long m17, .int m18, .int m19, .int m20, .ref m21, .ref m22, .int m23, .int m24, .int m25, .int m26, .ref m27, .int m28, .ref m29, .int m30, .int m31, .ref m32, .int m33, .ref m34, .ref m35, .int m36, .int m37, .ref m38, .int m39, .int m40, .int m41, .ref m42, .int m43, .ref m44, .int m45, .int m46, .int m47, .int m48, .int m49, .ref m50, .ref m51, .ref m52, .ref m53])), (m1, .inl (m1t, 940, .inl f_13)), (m6, .inl (m6t, 283, .inl m6f)), (m7, .inl (m7t, 67, .inl m7f)), (m8, .inl (m8t, 135, .inl m8f)), (m9, .inl (m9t, 36, .inr (.inl m9f))), (m10, .inl (m10t, 21, .inr (.inl m10f))), (m21, .inl (m21t, 280, .inl m21f)), (m22, .inl (m22t, 35, .inl m22f)), (m27, .inl (m27t, 4, .inl m27f)), (m29, .inl (m29t, 5, .inl m29f)), (m32, .inl (m32t, 7, .inl m32f)), (m34, .inl (m34t, 25, .inl m34f)), (m35, .inl (m35t, 25, .inl m35f)), (m38, .inl (m38t, 48, .inl m38f)), (m42, .inl (m42t, 4, .inl m42f)), (m44, .inl (m44t, 45, .inl m44f)), (m50, .inl (m50t, 45, .inl m50f)), (m51, .inl (m51t, 566, .inl m51f)), (m52, .inl (m52t, 36, .inr (.inl m52f))), (m53, .inl (m53t, 2, .inl m53f))] := hD
  refine lv_aload_n hx hb dX12_four_20 rfl (lv_at hl 1 rfl) ?_
  refine lv_dup hx hb dX12_four_21 rfl ?_
  refine va_get (D := D) (ci := 11) (v := .int y_9) (C := RX12) (T := TX12) (N := 54) hx hb hts hiX12 hown hK hP 0 rfl rfl 2 (by decide) (hts _ (List.mem_of_getElem? (i := 2) rfl)) (fun _ h9 => h9) rfl dX12_four_22 ?_
  refine lv_iconst (v := 1) hx hb dX12_four_25 (by decide) ?_
  refine lv_iadd hx hb dX12_four_26 ?_
  refine lv_topi (fun y_14 ey_14 => ?_)
  have h_15 : z_in 3 927 y_14 := by rw [ey_14]; exact z_add h_10 (z_lit (x := 1) (a := 1) (b := 1) rfl) rfl rfl
  have ty_14 : y_14.toInt = y_9.toInt + 1 := by rw [ey_14]; exact (z_addT h_10 (z_lit (x := 1) (a := 1) (b := 1) rfl) rfl).trans rfl
  refine va_put (D := D) (ci := 11) (v := .int y_14) (ty := tyX12 2) (C := RX12) (T := TX12) (N := 54) hx hb hts hiX12 tyX12 tyX12_ok nmX12 hown hK hP hD hS 0 rfl rfl 2 (by decide) (hts _ (List.mem_of_getElem? (i := 2) rfl)) (fun _ h9 => h9) rfl (tyX12_ok 2 (by decide)) rfl rfl (Nat.le_of_ble_eq_true rfl) dX12_four_27 (fun H locs hP hD hS => ?_)
  have hP : va_P D vwCl [(mo, .inr (11, [.int m0, .ref m1, .int y_14, .int m3, .int m4, .int m5, .ref m6, .ref m7, .ref m8, .ref m9, .ref m10, .int m11, .int m12, .int m13, .int m14, .int m15, .int m16, .long m17, .int m18, .int m19, .int m20, .ref m21, .ref m22, .int m23, .int m24, .int m25, .int m26, .ref m27, .int m28, .ref m29, .int m30, .int m31, .ref m32, .int m33, .ref m34, .ref m35, .int m36, .int m37, .ref m38, .int m39, .int m40, .int m41, .ref m42, .int m43, .ref m44, .int m45, .int m46, .int m47, .int m48, .int m49, .ref m50, .ref m51, .ref m52, .ref m53])), (m1, .inl (m1t, 940, .inl f_13)), (m6, .inl (m6t, 283, .inl m6f)), (m7, .inl (m7t, 67, .inl m7f)), (m8, .inl (m8t, 135, .inl m8f)), (m9, .inl (m9t, 36, .inr (.inl m9f))), (m10, .inl (m10t, 21, .inr (.inl m10f))), (m21, .inl (m21t, 280, .inl m21f)), (m22, .inl (m22t, 35, .inl m22f)), (m27, .inl (m27t, 4, .inl m27f)), (m29, .inl (m29t, 5, .inl m29f)), (m32, .inl (m32t, 7, .inl m32f)), (m34, .inl (m34t, 25, .inl m34f)), (m35, .inl (m35t, 25, .inl m35f)), (m38, .inl (m38t, 48, .inl m38f)), (m42, .inl (m42t, 4, .inl m42f)), (m44, .inl (m44t, 45, .inl m44f)), (m50, .inl (m50t, 45, .inl m50f)), (m51, .inl (m51t, 566, .inl m51f)), (m52, .inl (m52t, 36, .inr (.inl m52f))), (m53, .inl (m53t, 2, .inl m53f))] H := hP
  have hD : va_D A [(mo, .inr (11, [.int m0, .ref m1, .int y_14, .int m3, .int m4, .int m5, .ref m6, .ref m7, .ref m8, .ref m9, .ref m10, .int m11, .int m12, .int m13, .int m14, .int m15, .int m16, .long m17, .int m18, .int m19, .int m20, .ref m21, .ref m22, .int m23, .int m24, .int m25, .int m26, .ref m27, .int m28, .ref m29, .int m30, .int m31, .ref m32, .int m33, .ref m34, .ref m35, .int m36, .int m37, .ref m38, .int m39, .int m40, .int m41, .ref m42, .int m43, .ref m44, .int m45, .int m46, .int m47, .int m48, .int m49, .ref m50, .ref m51, .ref m52, .ref m53])), (m1, .inl (m1t, 940, .inl f_13)), (m6, .inl (m6t, 283, .inl m6f)), (m7, .inl (m7t, 67, .inl m7f)), (m8, .inl (m8t, 135, .inl m8f)), (m9, .inl (m9t, 36, .inr (.inl m9f))), (m10, .inl (m10t, 21, .inr (.inl m10f))), (m21, .inl (m21t, 280, .inl m21f)), (m22, .inl (m22t, 35, .inl m22f)), (m27, .inl (m27t, 4, .inl m27f)), (m29, .inl (m29t, 5, .inl m29f)), (m32, .inl (m32t, 7, .inl m32f)), (m34, .inl (m34t, 25, .inl m34f)), (m35, .inl (m35t, 25, .inl m35f)), (m38, .inl (m38t, 48, .inl m38f)), (m42, .inl (m42t, 4, .inl m42f)), (m44, .inl (m44t, 45, .inl m44f)), (m50, .inl (m50t, 45, .inl m50f)), (m51, .inl (m51t, 566, .inl m51f)), (m52, .inl (m52t, 36, .inr (.inl m52f))), (m53, .inl (m53t, 2, .inl m53f))] := hD
  refine lv_iinc (v := 0) (lv' := [(2, .int 0), (0, .ref mo), (1, .int i0)]) hx hb dX12_four_30 hl (k := 0) rfl (by decide) (by decide) rfl (fun ls hl => ?_)
  refine lv_goto (tgt := 3) hx hb dX12_four_33 (by decide) ?_
  refine lv_iload_n hx hb dX12_four_3 rfl (lv_at hl 0 rfl) ?_
  refine lv_if_lt (tgt := 36) hx hb dX12_four_4 (by decide) (fun h9 => absurd h9 (by decide)) (fun _ => ?_)
  refine lv_aload_n hx hb dX12_four_7 rfl (lv_at hl 1 rfl) ?_
  refine va_get (D := D) (ci := 11) (v := .ref m1) (C := RX12) (T := TX12) (N := 54) hx hb hts hiX12 hown hK hP 0 rfl rfl 1 (by decide) (hts _ (List.mem_of_getElem? (i := 1) rfl)) (fun _ h9 => h9) rfl dX12_four_8 ?_
  refine lv_aload_n hx hb dX12_four_11 rfl (lv_at hl 1 rfl) ?_
  refine va_get (D := D) (ci := 11) (v := .int y_14) (C := RX12) (T := TX12) (N := 54) hx hb hts hiX12 hown hK hP 0 rfl rfl 2 (by decide) (hts _ (List.mem_of_getElem? (i := 2) rfl)) (fun _ h9 => h9) rfl dX12_four_12 ?_
  refine lv_iload_n hx hb dX12_four_15 rfl (lv_at hl 2 rfl) ?_
  refine lv_iload_n hx hb dX12_four_16 rfl (lv_at hl 0 rfl) ?_
  refine lv_ishr hx hb dX12_four_17 ?_
  refine lv_topi (fun y_16 ey_16 => ?_)
  refine lv_i2b hx hb dX12_four_18 rfl ?_
  refine lv_topi (fun y_17 ey_17 => ?_)
  refine va_bast hx hb hK hP hD hS 1 0 rfl rfl (z_vp h_15 rfl) dX12_four_19 (fun H locs hP hD hS => ?_)
  generalize ef_18 : (upd f_13 (y_14 : Int32).toNatClampNeg (vp_nar .byte y_17)) = f_18 at hP hD
  have hP : va_P D vwCl [(mo, .inr (11, [.int m0, .ref m1, .int y_14, .int m3, .int m4, .int m5, .ref m6, .ref m7, .ref m8, .ref m9, .ref m10, .int m11, .int m12, .int m13, .int m14, .int m15, .int m16, .long m17, .int m18, .int m19, .int m20, .ref m21, .ref m22, .int m23, .int m24, .int m25, .int m26, .ref m27, .int m28, .ref m29, .int m30, .int m31, .ref m32, .int m33, .ref m34, .ref m35, .int m36, .int m37, .ref m38, .int m39, .int m40, .int m41, .ref m42, .int m43, .ref m44, .int m45, .int m46, .int m47, .int m48, .int m49, .ref m50, .ref m51, .ref m52, .ref m53])), (m1, .inl (m1t, 940, .inl f_18)), (m6, .inl (m6t, 283, .inl m6f)), (m7, .inl (m7t, 67, .inl m7f)), (m8, .inl (m8t, 135, .inl m8f)), (m9, .inl (m9t, 36, .inr (.inl m9f))), (m10, .inl (m10t, 21, .inr (.inl m10f))), (m21, .inl (m21t, 280, .inl m21f)), (m22, .inl (m22t, 35, .inl m22f)), (m27, .inl (m27t, 4, .inl m27f)), (m29, .inl (m29t, 5, .inl m29f)), (m32, .inl (m32t, 7, .inl m32f)), (m34, .inl (m34t, 25, .inl m34f)), (m35, .inl (m35t, 25, .inl m35f)), (m38, .inl (m38t, 48, .inl m38f)), (m42, .inl (m42t, 4, .inl m42f)), (m44, .inl (m44t, 45, .inl m44f)), (m50, .inl (m50t, 45, .inl m50f)), (m51, .inl (m51t, 566, .inl m51f)), (m52, .inl (m52t, 36, .inr (.inl m52f))), (m53, .inl (m53t, 2, .inl m53f))] H := hP
  have hD : va_D A [(mo, .inr (11, [.int m0, .ref m1, .int y_14, .int m3, .int m4, .int m5, .ref m6, .ref m7, .ref m8, .ref m9, .ref m10, .int m11, .int m12, .int m13, .int m14, .int m15, .int m16, .long m17, .int m18, .int m19, .int m20, .ref m21, .ref m22, .int m23, .int m24, .int m25, .int m26, .ref m27, .int m28, .ref m29, .int m30, .int m31, .ref m32, .int m33, .ref m34, .ref m35, .int m36, .int m37, .ref m38, .int m39, .int m40, .int m41, .ref m42, .int m43, .ref m44, .int m45, .int m46, .int m47, .int m48, .int m49, .ref m50, .ref m51, .ref m52, .ref m53])), (m1, .inl (m1t, 940, .inl f_18)), (m6, .inl (m6t, 283, .inl m6f)), (m7, .inl (m7t, 67, .inl m7f)), (m8, .inl (m8t, 135, .inl m8f)), (m9, .inl (m9t, 36, .inr (.inl m9f))), (m10, .inl (m10t, 21, .inr (.inl m10f))), (m21, .inl (m21t, 280, .inl m21f)), (m22, .inl (m22t, 35, .inl m22f)), (m27, .inl (m27t, 4, .inl m27f)), (m29, .inl (m29t, 5, .inl m29f)), (m32, .inl (m32t, 7, .inl m32f)), (m34, .inl (m34t, 25, .inl m34f)), (m35, .inl (m35t, 25, .inl m35f)), (m38, .inl (m38t, 48, .inl m38f)), (m42, .inl (m42t, 4, .inl m42f)), (m44, .inl (m44t, 45, .inl m44f)), (m50, .inl (m50t, 45, .inl m50f)), (m51, .inl (m51t, 566, .inl m51f)), (m52, .inl (m52t, 36, .inr (.inl m52f))), (m53, .inl (m53t, 2, .inl m53f))] := hD
  refine lv_aload_n hx hb dX12_four_20 rfl (lv_at hl 1 rfl) ?_
  refine lv_dup hx hb dX12_four_21 rfl ?_
  refine va_get (D := D) (ci := 11) (v := .int y_14) (C := RX12) (T := TX12) (N := 54) hx hb hts hiX12 hown hK hP 0 rfl rfl 2 (by decide) (hts _ (List.mem_of_getElem? (i := 2) rfl)) (fun _ h9 => h9) rfl dX12_four_22 ?_
  refine lv_iconst (v := 1) hx hb dX12_four_25 (by decide) ?_
  refine lv_iadd hx hb dX12_four_26 ?_
  refine lv_topi (fun y_19 ey_19 => ?_)
  have h_20 : z_in 4 928 y_19 := by rw [ey_19]; exact z_add h_15 (z_lit (x := 1) (a := 1) (b := 1) rfl) rfl rfl
  have ty_19 : y_19.toInt = y_14.toInt + 1 := by rw [ey_19]; exact (z_addT h_15 (z_lit (x := 1) (a := 1) (b := 1) rfl) rfl).trans rfl
  refine va_put (D := D) (ci := 11) (v := .int y_19) (ty := tyX12 2) (C := RX12) (T := TX12) (N := 54) hx hb hts hiX12 tyX12 tyX12_ok nmX12 hown hK hP hD hS 0 rfl rfl 2 (by decide) (hts _ (List.mem_of_getElem? (i := 2) rfl)) (fun _ h9 => h9) rfl (tyX12_ok 2 (by decide)) rfl rfl (Nat.le_of_ble_eq_true rfl) dX12_four_27 (fun H locs hP hD hS => ?_)
  have hP : va_P D vwCl [(mo, .inr (11, [.int m0, .ref m1, .int y_19, .int m3, .int m4, .int m5, .ref m6, .ref m7, .ref m8, .ref m9, .ref m10, .int m11, .int m12, .int m13, .int m14, .int m15, .int m16, .long m17, .int m18, .int m19, .int m20, .ref m21, .ref m22, .int m23, .int m24, .int m25, .int m26, .ref m27, .int m28, .ref m29, .int m30, .int m31, .ref m32, .int m33, .ref m34, .ref m35, .int m36, .int m37, .ref m38, .int m39, .int m40, .int m41, .ref m42, .int m43, .ref m44, .int m45, .int m46, .int m47, .int m48, .int m49, .ref m50, .ref m51, .ref m52, .ref m53])), (m1, .inl (m1t, 940, .inl f_18)), (m6, .inl (m6t, 283, .inl m6f)), (m7, .inl (m7t, 67, .inl m7f)), (m8, .inl (m8t, 135, .inl m8f)), (m9, .inl (m9t, 36, .inr (.inl m9f))), (m10, .inl (m10t, 21, .inr (.inl m10f))), (m21, .inl (m21t, 280, .inl m21f)), (m22, .inl (m22t, 35, .inl m22f)), (m27, .inl (m27t, 4, .inl m27f)), (m29, .inl (m29t, 5, .inl m29f)), (m32, .inl (m32t, 7, .inl m32f)), (m34, .inl (m34t, 25, .inl m34f)), (m35, .inl (m35t, 25, .inl m35f)), (m38, .inl (m38t, 48, .inl m38f)), (m42, .inl (m42t, 4, .inl m42f)), (m44, .inl (m44t, 45, .inl m44f)), (m50, .inl (m50t, 45, .inl m50f)), (m51, .inl (m51t, 566, .inl m51f)), (m52, .inl (m52t, 36, .inr (.inl m52f))), (m53, .inl (m53t, 2, .inl m53f))] H := hP
  have hD : va_D A [(mo, .inr (11, [.int m0, .ref m1, .int y_19, .int m3, .int m4, .int m5, .ref m6, .ref m7, .ref m8, .ref m9, .ref m10, .int m11, .int m12, .int m13, .int m14, .int m15, .int m16, .long m17, .int m18, .int m19, .int m20, .ref m21, .ref m22, .int m23, .int m24, .int m25, .int m26, .ref m27, .int m28, .ref m29, .int m30, .int m31, .ref m32, .int m33, .ref m34, .ref m35, .int m36, .int m37, .ref m38, .int m39, .int m40, .int m41, .ref m42, .int m43, .ref m44, .int m45, .int m46, .int m47, .int m48, .int m49, .ref m50, .ref m51, .ref m52, .ref m53])), (m1, .inl (m1t, 940, .inl f_18)), (m6, .inl (m6t, 283, .inl m6f)), (m7, .inl (m7t, 67, .inl m7f)), (m8, .inl (m8t, 135, .inl m8f)), (m9, .inl (m9t, 36, .inr (.inl m9f))), (m10, .inl (m10t, 21, .inr (.inl m10f))), (m21, .inl (m21t, 280, .inl m21f)), (m22, .inl (m22t, 35, .inl m22f)), (m27, .inl (m27t, 4, .inl m27f)), (m29, .inl (m29t, 5, .inl m29f)), (m32, .inl (m32t, 7, .inl m32f)), (m34, .inl (m34t, 25, .inl m34f)), (m35, .inl (m35t, 25, .inl m35f)), (m38, .inl (m38t, 48, .inl m38f)), (m42, .inl (m42t, 4, .inl m42f)), (m44, .inl (m44t, 45, .inl m44f)), (m50, .inl (m50t, 45, .inl m50f)), (m51, .inl (m51t, 566, .inl m51f)), (m52, .inl (m52t, 36, .inr (.inl m52f))), (m53, .inl (m53t, 2, .inl m53f))] := hD
  refine lv_iinc (v := (-8)) (lv' := [(2, .int (-8)), (0, .ref mo), (1, .int i0)]) hx hb dX12_four_30 hl (k := 0) rfl (by decide) (by decide) rfl (fun ls hl => ?_)
  refine lv_goto (tgt := 3) hx hb dX12_four_33 (by decide) ?_
  refine lv_iload_n hx hb dX12_four_3 rfl (lv_at hl 0 rfl) ?_
  refine lv_if_lt (tgt := 36) hx hb dX12_four_4 (by decide) (fun _ => ?_) (fun h9 => absurd (by decide) h9)
  exact hret ([(mo, .inr (11, [.int m0, .ref m1, .int y_19, .int m3, .int m4, .int m5, .ref m6, .ref m7, .ref m8, .ref m9, .ref m10, .int m11, .int m12, .int m13, .int m14, .int m15, .int m16, .long m17, .int m18, .int m19, .int m20, .ref m21, .ref m22, .int m23, .int m24, .int m25, .int m26, .ref m27, .int m28, .ref m29, .int m30, .int m31, .ref m32, .int m33, .ref m34, .ref m35, .int m36, .int m37, .ref m38, .int m39, .int m40, .int m41, .ref m42, .int m43, .ref m44, .int m45, .int m46, .int m47, .int m48, .int m49, .ref m50, .ref m51, .ref m52, .ref m53])), (m1, .inl (m1t, 940, .inl f_18)), (m6, .inl (m6t, 283, .inl m6f)), (m7, .inl (m7t, 67, .inl m7f)), (m8, .inl (m8t, 135, .inl m8f)), (m9, .inl (m9t, 36, .inr (.inl m9f))), (m10, .inl (m10t, 21, .inr (.inl m10f))), (m21, .inl (m21t, 280, .inl m21f)), (m22, .inl (m22t, 35, .inl m22f)), (m27, .inl (m27t, 4, .inl m27f)), (m29, .inl (m29t, 5, .inl m29f)), (m32, .inl (m32t, 7, .inl m32f)), (m34, .inl (m34t, 25, .inl m34f)), (m35, .inl (m35t, 25, .inl m35f)), (m38, .inl (m38t, 48, .inl m38f)), (m42, .inl (m42t, 4, .inl m42f)), (m44, .inl (m44t, 45, .inl m44f)), (m50, .inl (m50t, 45, .inl m50f)), (m51, .inl (m51t, 566, .inl m51f)), (m52, .inl (m52t, 36, .inr (.inl m52f))), (m53, .inl (m53t, 2, .inl m53f))], []) _ _ _ _ dX12_four_36 ⟨y_19, f_18, h_20, (show z_a4 m2 y_19 from by have q0 := ty_19; have q1 := ty_14; have q2 := ty_9; have q3 := ty_4; unfold z_a4; omega), (z_m4I ef_3 ef_8 ef_13 ef_18 ey_2 ey_7 ey_12 ey_17 ey_1 ey_6 ey_11 ey_16 ty_4 ty_9 ty_14), rfl⟩ hP (hK.sub [] rfl) hD hS

set_option maxHeartbeats 8000000 in
set_option maxRecDepth 100000 in
theorem m_four928 (l : Launch) (D : va_G) (ad : Nat → Nat) (mo : Nat) (m0 : Int32) (m2 : Int32) (m3 : Int32) (m4 : Int32) (m5 : Int32) (m11 : Int32) (m12 : Int32) (m13 : Int32) (m14 : Int32) (m15 : Int32) (m16 : Int32) (m17 : Int64) (m18 : Int32) (m19 : Int32) (m20 : Int32) (m23 : Int32) (m24 : Int32) (m25 : Int32) (m26 : Int32) (m28 : Int32) (m30 : Int32) (m31 : Int32) (m33 : Int32) (m36 : Int32) (m37 : Int32) (m39 : Int32) (m40 : Int32) (m41 : Int32) (m43 : Int32) (m45 : Int32) (m46 : Int32) (m47 : Int32) (m48 : Int32) (m49 : Int32) (m1 : Nat) (m1t : ClassId) (m1f : Nat → Int32) (m6 : Nat) (m6t : ClassId) (m6f : Nat → Int32) (m7 : Nat) (m7t : ClassId) (m7f : Nat → Int32) (m8 : Nat) (m8t : ClassId) (m8f : Nat → Int32) (m9 : Nat) (m9t : ClassId) (m9f : Nat → Int64) (m10 : Nat) (m10t : ClassId) (m10f : Nat → Int64) (m21 : Nat) (m21t : ClassId) (m21f : Nat → Int32) (m22 : Nat) (m22t : ClassId) (m22f : Nat → Int32) (m27 : Nat) (m27t : ClassId) (m27f : Nat → Int32) (m29 : Nat) (m29t : ClassId) (m29f : Nat → Int32) (m32 : Nat) (m32t : ClassId) (m32f : Nat → Int32) (m34 : Nat) (m34t : ClassId) (m34f : Nat → Int32) (m35 : Nat) (m35t : ClassId) (m35f : Nat → Int32) (m38 : Nat) (m38t : ClassId) (m38f : Nat → Int32) (m42 : Nat) (m42t : ClassId) (m42f : Nat → Int32) (m44 : Nat) (m44t : ClassId) (m44f : Nat → Int32) (m50 : Nat) (m50t : ClassId) (m50f : Nat → Int32) (m51 : Nat) (m51t : ClassId) (m51f : Nat → Int32) (m52 : Nat) (m52t : ClassId) (m52f : Nat → Int64) (m53 : Nat) (m53t : ClassId) (m53f : Nat → Int32) (i0 : Int32) (hm2 : z_in 0 928 m2) (hm3 : z_in 0 940 m3) (hm4 : z_in 0 940 m4) (hm5 : z_in 0 940 m5) (hm11 : z_in 0 4 m11) (hm20 : z_in 0 1 m20) (hm23 : z_in 0 8 m23) (hm26 : z_in 0 1 m26) (hm28 : z_in (-1) 4 m28) (hm31 : z_in 0 1 m31) (hm33 : z_in (-1) 7 m33) (hm37 : z_in 0 1 m37) (hm39 : z_in 0 48 m39) (hm41 : z_in 0 40 m41) (hm43 : z_in 0 1 m43) (hm45 : z_in 0 45 m45) (hm46 : z_in 0 20 m46) (hm47 : z_in 0 45 m47) (hm49 : z_in 0 1 m49) (hm6f : z_sr m6f) (hm7f : z_hr m7f) (hm21f : z_ar rgU m21f) (hm22f : z_ar rgB m22f) (hm27f : z_al 0 4 m27f) (hm32f : z_al 0 4 m32f) (hm34f : z_al 0 1 m34f) (hm35f : z_al 0 1 m35f) (hm50f : z_al 0 1 m50f) (hm51f : z_ir m51f) (hm53f : z_al 0 1 m53f) : z_Mv l yX12_four wsX12_four { frames := 0, cells := 0, slots := 0, locals := 0 } D ad [.ref mo, .int i0] [(mo, .inr (11, [.int m0, .ref m1, .int m2, .int m3, .int m4, .int m5, .ref m6, .ref m7, .ref m8, .ref m9, .ref m10, .int m11, .int m12, .int m13, .int m14, .int m15, .int m16, .long m17, .int m18, .int m19, .int m20, .ref m21, .ref m22, .int m23, .int m24, .int m25, .int m26, .ref m27, .int m28, .ref m29, .int m30, .int m31, .ref m32, .int m33, .ref m34, .ref m35, .int m36, .int m37, .ref m38, .int m39, .int m40, .int m41, .ref m42, .int m43, .ref m44, .int m45, .int m46, .int m47, .int m48, .int m49, .ref m50, .ref m51, .ref m52, .ref m53])), (m1, .inl (m1t, 940, .inl m1f)), (m6, .inl (m6t, 283, .inl m6f)), (m7, .inl (m7t, 67, .inl m7f)), (m8, .inl (m8t, 135, .inl m8f)), (m9, .inl (m9t, 36, .inr (.inl m9f))), (m10, .inl (m10t, 21, .inr (.inl m10f))), (m21, .inl (m21t, 280, .inl m21f)), (m22, .inl (m22t, 35, .inl m22f)), (m27, .inl (m27t, 4, .inl m27f)), (m29, .inl (m29t, 5, .inl m29f)), (m32, .inl (m32t, 7, .inl m32f)), (m34, .inl (m34t, 25, .inl m34f)), (m35, .inl (m35t, 25, .inl m35f)), (m38, .inl (m38t, 48, .inl m38f)), (m42, .inl (m42t, 4, .inl m42f)), (m44, .inl (m44t, 45, .inl m44f)), (m50, .inl (m50t, 45, .inl m50f)), (m51, .inl (m51t, 566, .inl m51f)), (m52, .inl (m52t, 36, .inr (.inl m52f))), (m53, .inl (m53t, 2, .inl m53f))] [(m1t, .byte), (m6t, .int), (m7t, .int), (m8t, .int), (m9t, .long), (m10t, .long), (m21t, .int), (m22t, .int), (m27t, .int), (m29t, .int), (m32t, .int), (m34t, .boolean), (m35t, .boolean), (m38t, .byte), (m42t, .int), (m44t, .int), (m50t, .boolean), (m51t, .int), (m52t, .long), (m53t, .boolean)] 0 0 (fun u9 => ∃ (x0_2 : Int32) (x1_f : Nat → Int32), z_in 4 932 x0_2 ∧ z_a4 m2 x0_2 ∧ z_bn4 x1_f m1f m2 i0 ∧ u9 = ([(mo, .inr (11, [.int m0, .ref m1, .int x0_2, .int m3, .int m4, .int m5, .ref m6, .ref m7, .ref m8, .ref m9, .ref m10, .int m11, .int m12, .int m13, .int m14, .int m15, .int m16, .long m17, .int m18, .int m19, .int m20, .ref m21, .ref m22, .int m23, .int m24, .int m25, .int m26, .ref m27, .int m28, .ref m29, .int m30, .int m31, .ref m32, .int m33, .ref m34, .ref m35, .int m36, .int m37, .ref m38, .int m39, .int m40, .int m41, .ref m42, .int m43, .ref m44, .int m45, .int m46, .int m47, .int m48, .int m49, .ref m50, .ref m51, .ref m52, .ref m53])), (m1, .inl (m1t, 940, .inl x1_f)), (m6, .inl (m6t, 283, .inl m6f)), (m7, .inl (m7t, 67, .inl m7f)), (m8, .inl (m8t, 135, .inl m8f)), (m9, .inl (m9t, 36, .inr (.inl m9f))), (m10, .inl (m10t, 21, .inr (.inl m10f))), (m21, .inl (m21t, 280, .inl m21f)), (m22, .inl (m22t, 35, .inl m22f)), (m27, .inl (m27t, 4, .inl m27f)), (m29, .inl (m29t, 5, .inl m29f)), (m32, .inl (m32t, 7, .inl m32f)), (m34, .inl (m34t, 25, .inl m34f)), (m35, .inl (m35t, 25, .inl m35f)), (m38, .inl (m38t, 48, .inl m38f)), (m42, .inl (m42t, 4, .inl m42f)), (m44, .inl (m44t, 45, .inl m44f)), (m50, .inl (m50t, 45, .inl m50f)), (m51, .inl (m51t, 566, .inl m51f)), (m52, .inl (m52t, 36, .inr (.inl m52f))), (m53, .inl (m53t, 2, .inl m53f))], [])) := by
  refine z_ofV (cc := cX12_four) (maxL := 3) (by decide) rfl (Nat.le_of_ble_eq_true rfl) ?_
  intro p e s m below meth c Q A ls hx hb hml hown hts hin hK hP hD hA hE hO hS hl hret
  have hown : s.vm.findClass RX12 = some m.cls := hown
  have hiX12 : ∀ w ∈ wsX120, w ∈ wsX12_four := fun _ h9 => List.mem_cons_of_mem _ (List.mem_append_right _ h9)
  have hl : lv_has ls 3 [(0, .ref mo), (1, .int i0)] := hl
  refine lv_bipush (v := 24) hx hb dX12_four_0 (by decide) ?_
  refine lv_istore_n (lv' := [(2, .int 24), (0, .ref mo), (1, .int i0)]) hx hb dX12_four_2 rfl hl (by decide) rfl (fun ls hl => ?_)
  refine lv_iload_n hx hb dX12_four_3 rfl (lv_at hl 0 rfl) ?_
  refine lv_if_lt (tgt := 36) hx hb dX12_four_4 (by decide) (fun h9 => absurd h9 (by decide)) (fun _ => ?_)
  refine lv_aload_n hx hb dX12_four_7 rfl (lv_at hl 1 rfl) ?_
  refine va_get (D := D) (ci := 11) (v := .ref m1) (C := RX12) (T := TX12) (N := 54) hx hb hts hiX12 hown hK hP 0 rfl rfl 1 (by decide) (hts _ (List.mem_of_getElem? (i := 1) rfl)) (fun _ h9 => h9) rfl dX12_four_8 ?_
  refine lv_aload_n hx hb dX12_four_11 rfl (lv_at hl 1 rfl) ?_
  refine va_get (D := D) (ci := 11) (v := .int m2) (C := RX12) (T := TX12) (N := 54) hx hb hts hiX12 hown hK hP 0 rfl rfl 2 (by decide) (hts _ (List.mem_of_getElem? (i := 2) rfl)) (fun _ h9 => h9) rfl dX12_four_12 ?_
  refine lv_iload_n hx hb dX12_four_15 rfl (lv_at hl 2 rfl) ?_
  refine lv_iload_n hx hb dX12_four_16 rfl (lv_at hl 0 rfl) ?_
  refine lv_ishr hx hb dX12_four_17 ?_
  refine lv_topi (fun y_1 ey_1 => ?_)
  refine lv_i2b hx hb dX12_four_18 rfl ?_
  refine lv_topi (fun y_2 ey_2 => ?_)
  refine va_bast hx hb hK hP hD hS 1 0 rfl rfl (z_vp hm2 rfl) dX12_four_19 (fun H locs hP hD hS => ?_)
  generalize ef_3 : (upd m1f (m2 : Int32).toNatClampNeg (vp_nar .byte y_2)) = f_3 at hP hD
  have hP : va_P D vwCl [(mo, .inr (11, [.int m0, .ref m1, .int m2, .int m3, .int m4, .int m5, .ref m6, .ref m7, .ref m8, .ref m9, .ref m10, .int m11, .int m12, .int m13, .int m14, .int m15, .int m16, .long m17, .int m18, .int m19, .int m20, .ref m21, .ref m22, .int m23, .int m24, .int m25, .int m26, .ref m27, .int m28, .ref m29, .int m30, .int m31, .ref m32, .int m33, .ref m34, .ref m35, .int m36, .int m37, .ref m38, .int m39, .int m40, .int m41, .ref m42, .int m43, .ref m44, .int m45, .int m46, .int m47, .int m48, .int m49, .ref m50, .ref m51, .ref m52, .ref m53])), (m1, .inl (m1t, 940, .inl f_3)), (m6, .inl (m6t, 283, .inl m6f)), (m7, .inl (m7t, 67, .inl m7f)), (m8, .inl (m8t, 135, .inl m8f)), (m9, .inl (m9t, 36, .inr (.inl m9f))), (m10, .inl (m10t, 21, .inr (.inl m10f))), (m21, .inl (m21t, 280, .inl m21f)), (m22, .inl (m22t, 35, .inl m22f)), (m27, .inl (m27t, 4, .inl m27f)), (m29, .inl (m29t, 5, .inl m29f)), (m32, .inl (m32t, 7, .inl m32f)), (m34, .inl (m34t, 25, .inl m34f)), (m35, .inl (m35t, 25, .inl m35f)), (m38, .inl (m38t, 48, .inl m38f)), (m42, .inl (m42t, 4, .inl m42f)), (m44, .inl (m44t, 45, .inl m44f)), (m50, .inl (m50t, 45, .inl m50f)), (m51, .inl (m51t, 566, .inl m51f)), (m52, .inl (m52t, 36, .inr (.inl m52f))), (m53, .inl (m53t, 2, .inl m53f))] H := hP
  have hD : va_D A [(mo, .inr (11, [.int m0, .ref m1, .int m2, .int m3, .int m4, .int m5, .ref m6, .ref m7, .ref m8, .ref m9, .ref m10, .int m11, .int m12, .int m13, .int m14, .int m15, .int m16, .long m17, .int m18, .int m19, .int m20, .ref m21, .ref m22, .int m23, .int m24, .int m25, .int m26, .ref m27, .int m28, .ref m29, .int m30, .int m31, .ref m32, .int m33, .ref m34, .ref m35, .int m36, .int m37, .ref m38, .int m39, .int m40, .int m41, .ref m42, .int m43, .ref m44, .int m45, .int m46, .int m47, .int m48, .int m49, .ref m50, .ref m51, .ref m52, .ref m53])), (m1, .inl (m1t, 940, .inl f_3)), (m6, .inl (m6t, 283, .inl m6f)), (m7, .inl (m7t, 67, .inl m7f)), (m8, .inl (m8t, 135, .inl m8f)), (m9, .inl (m9t, 36, .inr (.inl m9f))), (m10, .inl (m10t, 21, .inr (.inl m10f))), (m21, .inl (m21t, 280, .inl m21f)), (m22, .inl (m22t, 35, .inl m22f)), (m27, .inl (m27t, 4, .inl m27f)), (m29, .inl (m29t, 5, .inl m29f)), (m32, .inl (m32t, 7, .inl m32f)), (m34, .inl (m34t, 25, .inl m34f)), (m35, .inl (m35t, 25, .inl m35f)), (m38, .inl (m38t, 48, .inl m38f)), (m42, .inl (m42t, 4, .inl m42f)), (m44, .inl (m44t, 45, .inl m44f)), (m50, .inl (m50t, 45, .inl m50f)), (m51, .inl (m51t, 566, .inl m51f)), (m52, .inl (m52t, 36, .inr (.inl m52f))), (m53, .inl (m53t, 2, .inl m53f))] := hD
  refine lv_aload_n hx hb dX12_four_20 rfl (lv_at hl 1 rfl) ?_
  refine lv_dup hx hb dX12_four_21 rfl ?_
  refine va_get (D := D) (ci := 11) (v := .int m2) (C := RX12) (T := TX12) (N := 54) hx hb hts hiX12 hown hK hP 0 rfl rfl 2 (by decide) (hts _ (List.mem_of_getElem? (i := 2) rfl)) (fun _ h9 => h9) rfl dX12_four_22 ?_
  refine lv_iconst (v := 1) hx hb dX12_four_25 (by decide) ?_
  refine lv_iadd hx hb dX12_four_26 ?_
  refine lv_topi (fun y_4 ey_4 => ?_)
  have h_5 : z_in 1 929 y_4 := by rw [ey_4]; exact z_add hm2 (z_lit (x := 1) (a := 1) (b := 1) rfl) rfl rfl
  have ty_4 : y_4.toInt = m2.toInt + 1 := by rw [ey_4]; exact (z_addT hm2 (z_lit (x := 1) (a := 1) (b := 1) rfl) rfl).trans rfl
  refine va_put (D := D) (ci := 11) (v := .int y_4) (ty := tyX12 2) (C := RX12) (T := TX12) (N := 54) hx hb hts hiX12 tyX12 tyX12_ok nmX12 hown hK hP hD hS 0 rfl rfl 2 (by decide) (hts _ (List.mem_of_getElem? (i := 2) rfl)) (fun _ h9 => h9) rfl (tyX12_ok 2 (by decide)) rfl rfl (Nat.le_of_ble_eq_true rfl) dX12_four_27 (fun H locs hP hD hS => ?_)
  have hP : va_P D vwCl [(mo, .inr (11, [.int m0, .ref m1, .int y_4, .int m3, .int m4, .int m5, .ref m6, .ref m7, .ref m8, .ref m9, .ref m10, .int m11, .int m12, .int m13, .int m14, .int m15, .int m16, .long m17, .int m18, .int m19, .int m20, .ref m21, .ref m22, .int m23, .int m24, .int m25, .int m26, .ref m27, .int m28, .ref m29, .int m30, .int m31, .ref m32, .int m33, .ref m34, .ref m35, .int m36, .int m37, .ref m38, .int m39, .int m40, .int m41, .ref m42, .int m43, .ref m44, .int m45, .int m46, .int m47, .int m48, .int m49, .ref m50, .ref m51, .ref m52, .ref m53])), (m1, .inl (m1t, 940, .inl f_3)), (m6, .inl (m6t, 283, .inl m6f)), (m7, .inl (m7t, 67, .inl m7f)), (m8, .inl (m8t, 135, .inl m8f)), (m9, .inl (m9t, 36, .inr (.inl m9f))), (m10, .inl (m10t, 21, .inr (.inl m10f))), (m21, .inl (m21t, 280, .inl m21f)), (m22, .inl (m22t, 35, .inl m22f)), (m27, .inl (m27t, 4, .inl m27f)), (m29, .inl (m29t, 5, .inl m29f)), (m32, .inl (m32t, 7, .inl m32f)), (m34, .inl (m34t, 25, .inl m34f)), (m35, .inl (m35t, 25, .inl m35f)), (m38, .inl (m38t, 48, .inl m38f)), (m42, .inl (m42t, 4, .inl m42f)), (m44, .inl (m44t, 45, .inl m44f)), (m50, .inl (m50t, 45, .inl m50f)), (m51, .inl (m51t, 566, .inl m51f)), (m52, .inl (m52t, 36, .inr (.inl m52f))), (m53, .inl (m53t, 2, .inl m53f))] H := hP
  have hD : va_D A [(mo, .inr (11, [.int m0, .ref m1, .int y_4, .int m3, .int m4, .int m5, .ref m6, .ref m7, .ref m8, .ref m9, .ref m10, .int m11, .int m12, .int m13, .int m14, .int m15, .int m16, .long m17, .int m18, .int m19, .int m20, .ref m21, .ref m22, .int m23, .int m24, .int m25, .int m26, .ref m27, .int m28, .ref m29, .int m30, .int m31, .ref m32, .int m33, .ref m34, .ref m35, .int m36, .int m37, .ref m38, .int m39, .int m40, .int m41, .ref m42, .int m43, .ref m44, .int m45, .int m46, .int m47, .int m48, .int m49, .ref m50, .ref m51, .ref m52, .ref m53])), (m1, .inl (m1t, 940, .inl f_3)), (m6, .inl (m6t, 283, .inl m6f)), (m7, .inl (m7t, 67, .inl m7f)), (m8, .inl (m8t, 135, .inl m8f)), (m9, .inl (m9t, 36, .inr (.inl m9f))), (m10, .inl (m10t, 21, .inr (.inl m10f))), (m21, .inl (m21t, 280, .inl m21f)), (m22, .inl (m22t, 35, .inl m22f)), (m27, .inl (m27t, 4, .inl m27f)), (m29, .inl (m29t, 5, .inl m29f)), (m32, .inl (m32t, 7, .inl m32f)), (m34, .inl (m34t, 25, .inl m34f)), (m35, .inl (m35t, 25, .inl m35f)), (m38, .inl (m38t, 48, .inl m38f)), (m42, .inl (m42t, 4, .inl m42f)), (m44, .inl (m44t, 45, .inl m44f)), (m50, .inl (m50t, 45, .inl m50f)), (m51, .inl (m51t, 566, .inl m51f)), (m52, .inl (m52t, 36, .inr (.inl m52f))), (m53, .inl (m53t, 2, .inl m53f))] := hD
  refine lv_iinc (v := 16) (lv' := [(2, .int 16), (0, .ref mo), (1, .int i0)]) hx hb dX12_four_30 hl (k := 0) rfl (by decide) (by decide) rfl (fun ls hl => ?_)
  refine lv_goto (tgt := 3) hx hb dX12_four_33 (by decide) ?_
  refine lv_iload_n hx hb dX12_four_3 rfl (lv_at hl 0 rfl) ?_
  refine lv_if_lt (tgt := 36) hx hb dX12_four_4 (by decide) (fun h9 => absurd h9 (by decide)) (fun _ => ?_)
  refine lv_aload_n hx hb dX12_four_7 rfl (lv_at hl 1 rfl) ?_
  refine va_get (D := D) (ci := 11) (v := .ref m1) (C := RX12) (T := TX12) (N := 54) hx hb hts hiX12 hown hK hP 0 rfl rfl 1 (by decide) (hts _ (List.mem_of_getElem? (i := 1) rfl)) (fun _ h9 => h9) rfl dX12_four_8 ?_
  refine lv_aload_n hx hb dX12_four_11 rfl (lv_at hl 1 rfl) ?_
  refine va_get (D := D) (ci := 11) (v := .int y_4) (C := RX12) (T := TX12) (N := 54) hx hb hts hiX12 hown hK hP 0 rfl rfl 2 (by decide) (hts _ (List.mem_of_getElem? (i := 2) rfl)) (fun _ h9 => h9) rfl dX12_four_12 ?_
  refine lv_iload_n hx hb dX12_four_15 rfl (lv_at hl 2 rfl) ?_
  refine lv_iload_n hx hb dX12_four_16 rfl (lv_at hl 0 rfl) ?_
  refine lv_ishr hx hb dX12_four_17 ?_
  refine lv_topi (fun y_6 ey_6 => ?_)
  refine lv_i2b hx hb dX12_four_18 rfl ?_
  refine lv_topi (fun y_7 ey_7 => ?_)
  refine va_bast hx hb hK hP hD hS 1 0 rfl rfl (z_vp h_5 rfl) dX12_four_19 (fun H locs hP hD hS => ?_)
  generalize ef_8 : (upd f_3 (y_4 : Int32).toNatClampNeg (vp_nar .byte y_7)) = f_8 at hP hD
  have hP : va_P D vwCl [(mo, .inr (11, [.int m0, .ref m1, .int y_4, .int m3, .int m4, .int m5, .ref m6, .ref m7, .ref m8, .ref m9, .ref m10, .int m11, .int m12, .int m13, .int m14, .int m15, .int m16, .long m17, .int m18, .int m19, .int m20, .ref m21, .ref m22, .int m23, .int m24, .int m25, .int m26, .ref m27, .int m28, .ref m29, .int m30, .int m31, .ref m32, .int m33, .ref m34, .ref m35, .int m36, .int m37, .ref m38, .int m39, .int m40, .int m41, .ref m42, .int m43, .ref m44, .int m45, .int m46, .int m47, .int m48, .int m49, .ref m50, .ref m51, .ref m52, .ref m53])), (m1, .inl (m1t, 940, .inl f_8)), (m6, .inl (m6t, 283, .inl m6f)), (m7, .inl (m7t, 67, .inl m7f)), (m8, .inl (m8t, 135, .inl m8f)), (m9, .inl (m9t, 36, .inr (.inl m9f))), (m10, .inl (m10t, 21, .inr (.inl m10f))), (m21, .inl (m21t, 280, .inl m21f)), (m22, .inl (m22t, 35, .inl m22f)), (m27, .inl (m27t, 4, .inl m27f)), (m29, .inl (m29t, 5, .inl m29f)), (m32, .inl (m32t, 7, .inl m32f)), (m34, .inl (m34t, 25, .inl m34f)), (m35, .inl (m35t, 25, .inl m35f)), (m38, .inl (m38t, 48, .inl m38f)), (m42, .inl (m42t, 4, .inl m42f)), (m44, .inl (m44t, 45, .inl m44f)), (m50, .inl (m50t, 45, .inl m50f)), (m51, .inl (m51t, 566, .inl m51f)), (m52, .inl (m52t, 36, .inr (.inl m52f))), (m53, .inl (m53t, 2, .inl m53f))] H := hP
  have hD : va_D A [(mo, .inr (11, [.int m0, .ref m1, .int y_4, .int m3, .int m4, .int m5, .ref m6, .ref m7, .ref m8, .ref m9, .ref m10, .int m11, .int m12, .int m13, .int m14, .int m15, .int m16, .long m17, .int m18, .int m19, .int m20, .ref m21, .ref m22, .int m23, .int m24, .int m25, .int m26, .ref m27, .int m28, .ref m29, .int m30, .int m31, .ref m32, .int m33, .ref m34, .ref m35, .int m36, .int m37, .ref m38, .int m39, .int m40, .int m41, .ref m42, .int m43, .ref m44, .int m45, .int m46, .int m47, .int m48, .int m49, .ref m50, .ref m51, .ref m52, .ref m53])), (m1, .inl (m1t, 940, .inl f_8)), (m6, .inl (m6t, 283, .inl m6f)), (m7, .inl (m7t, 67, .inl m7f)), (m8, .inl (m8t, 135, .inl m8f)), (m9, .inl (m9t, 36, .inr (.inl m9f))), (m10, .inl (m10t, 21, .inr (.inl m10f))), (m21, .inl (m21t, 280, .inl m21f)), (m22, .inl (m22t, 35, .inl m22f)), (m27, .inl (m27t, 4, .inl m27f)), (m29, .inl (m29t, 5, .inl m29f)), (m32, .inl (m32t, 7, .inl m32f)), (m34, .inl (m34t, 25, .inl m34f)), (m35, .inl (m35t, 25, .inl m35f)), (m38, .inl (m38t, 48, .inl m38f)), (m42, .inl (m42t, 4, .inl m42f)), (m44, .inl (m44t, 45, .inl m44f)), (m50, .inl (m50t, 45, .inl m50f)), (m51, .inl (m51t, 566, .inl m51f)), (m52, .inl (m52t, 36, .inr (.inl m52f))), (m53, .inl (m53t, 2, .inl m53f))] := hD
  refine lv_aload_n hx hb dX12_four_20 rfl (lv_at hl 1 rfl) ?_
  refine lv_dup hx hb dX12_four_21 rfl ?_
  refine va_get (D := D) (ci := 11) (v := .int y_4) (C := RX12) (T := TX12) (N := 54) hx hb hts hiX12 hown hK hP 0 rfl rfl 2 (by decide) (hts _ (List.mem_of_getElem? (i := 2) rfl)) (fun _ h9 => h9) rfl dX12_four_22 ?_
  refine lv_iconst (v := 1) hx hb dX12_four_25 (by decide) ?_
  refine lv_iadd hx hb dX12_four_26 ?_
  refine lv_topi (fun y_9 ey_9 => ?_)
  have h_10 : z_in 2 930 y_9 := by rw [ey_9]; exact z_add h_5 (z_lit (x := 1) (a := 1) (b := 1) rfl) rfl rfl
  have ty_9 : y_9.toInt = y_4.toInt + 1 := by rw [ey_9]; exact (z_addT h_5 (z_lit (x := 1) (a := 1) (b := 1) rfl) rfl).trans rfl
  refine va_put (D := D) (ci := 11) (v := .int y_9) (ty := tyX12 2) (C := RX12) (T := TX12) (N := 54) hx hb hts hiX12 tyX12 tyX12_ok nmX12 hown hK hP hD hS 0 rfl rfl 2 (by decide) (hts _ (List.mem_of_getElem? (i := 2) rfl)) (fun _ h9 => h9) rfl (tyX12_ok 2 (by decide)) rfl rfl (Nat.le_of_ble_eq_true rfl) dX12_four_27 (fun H locs hP hD hS => ?_)
  have hP : va_P D vwCl [(mo, .inr (11, [.int m0, .ref m1, .int y_9, .int m3, .int m4, .int m5, .ref m6, .ref m7, .ref m8, .ref m9, .ref m10, .int m11, .int m12, .int m13, .int m14, .int m15, .int m16, .long m17, .int m18, .int m19, .int m20, .ref m21, .ref m22, .int m23, .int m24, .int m25, .int m26, .ref m27, .int m28, .ref m29, .int m30, .int m31, .ref m32, .int m33, .ref m34, .ref m35, .int m36, .int m37, .ref m38, .int m39, .int m40, .int m41, .ref m42, .int m43, .ref m44, .int m45, .int m46, .int m47, .int m48, .int m49, .ref m50, .ref m51, .ref m52, .ref m53])), (m1, .inl (m1t, 940, .inl f_8)), (m6, .inl (m6t, 283, .inl m6f)), (m7, .inl (m7t, 67, .inl m7f)), (m8, .inl (m8t, 135, .inl m8f)), (m9, .inl (m9t, 36, .inr (.inl m9f))), (m10, .inl (m10t, 21, .inr (.inl m10f))), (m21, .inl (m21t, 280, .inl m21f)), (m22, .inl (m22t, 35, .inl m22f)), (m27, .inl (m27t, 4, .inl m27f)), (m29, .inl (m29t, 5, .inl m29f)), (m32, .inl (m32t, 7, .inl m32f)), (m34, .inl (m34t, 25, .inl m34f)), (m35, .inl (m35t, 25, .inl m35f)), (m38, .inl (m38t, 48, .inl m38f)), (m42, .inl (m42t, 4, .inl m42f)), (m44, .inl (m44t, 45, .inl m44f)), (m50, .inl (m50t, 45, .inl m50f)), (m51, .inl (m51t, 566, .inl m51f)), (m52, .inl (m52t, 36, .inr (.inl m52f))), (m53, .inl (m53t, 2, .inl m53f))] H := hP
  have hD : va_D A [(mo, .inr (11, [.int m0, .ref m1, .int y_9, .int m3, .int m4, .int m5, .ref m6, .ref m7, .ref m8, .ref m9, .ref m10, .int m11, .int m12, .int m13, .int m14, .int m15, .int m16, .long m17, .int m18, .int m19, .int m20, .ref m21, .ref m22, .int m23, .int m24, .int m25, .int m26, .ref m27, .int m28, .ref m29, .int m30, .int m31, .ref m32, .int m33, .ref m34, .ref m35, .int m36, .int m37, .ref m38, .int m39, .int m40, .int m41, .ref m42, .int m43, .ref m44, .int m45, .int m46, .int m47, .int m48, .int m49, .ref m50, .ref m51, .ref m52, .ref m53])), (m1, .inl (m1t, 940, .inl f_8)), (m6, .inl (m6t, 283, .inl m6f)), (m7, .inl (m7t, 67, .inl m7f)), (m8, .inl (m8t, 135, .inl m8f)), (m9, .inl (m9t, 36, .inr (.inl m9f))), (m10, .inl (m10t, 21, .inr (.inl m10f))), (m21, .inl (m21t, 280, .inl m21f)), (m22, .inl (m22t, 35, .inl m22f)), (m27, .inl (m27t, 4, .inl m27f)), (m29, .inl (m29t, 5, .inl m29f)), (m32, .inl (m32t, 7, .inl m32f)), (m34, .inl (m34t, 25, .inl m34f)), (m35, .inl (m35t, 25, .inl m35f)), (m38, .inl (m38t, 48, .inl m38f)), (m42, .inl (m42t, 4, .inl m42f)), (m44, .inl (m44t, 45, .inl m44f)), (m50, .inl (m50t, 45, .inl m50f)), (m51, .inl (m51t, 566, .inl m51f)), (m52, .inl (m52t, 36, .inr (.inl m52f))), (m53, .inl (m53t, 2, .inl m53f))] := hD
  refine lv_iinc (v := 8) (lv' := [(2, .int 8), (0, .ref mo), (1, .int i0)]) hx hb dX12_four_30 hl (k := 0) rfl (by decide) (by decide) rfl (fun ls hl => ?_)
  refine lv_goto (tgt := 3) hx hb dX12_four_33 (by decide) ?_
  refine lv_iload_n hx hb dX12_four_3 rfl (lv_at hl 0 rfl) ?_
  refine lv_if_lt (tgt := 36) hx hb dX12_four_4 (by decide) (fun h9 => absurd h9 (by decide)) (fun _ => ?_)
  refine lv_aload_n hx hb dX12_four_7 rfl (lv_at hl 1 rfl) ?_
  refine va_get (D := D) (ci := 11) (v := .ref m1) (C := RX12) (T := TX12) (N := 54) hx hb hts hiX12 hown hK hP 0 rfl rfl 1 (by decide) (hts _ (List.mem_of_getElem? (i := 1) rfl)) (fun _ h9 => h9) rfl dX12_four_8 ?_
  refine lv_aload_n hx hb dX12_four_11 rfl (lv_at hl 1 rfl) ?_
  refine va_get (D := D) (ci := 11) (v := .int y_9) (C := RX12) (T := TX12) (N := 54) hx hb hts hiX12 hown hK hP 0 rfl rfl 2 (by decide) (hts _ (List.mem_of_getElem? (i := 2) rfl)) (fun _ h9 => h9) rfl dX12_four_12 ?_
  refine lv_iload_n hx hb dX12_four_15 rfl (lv_at hl 2 rfl) ?_
  refine lv_iload_n hx hb dX12_four_16 rfl (lv_at hl 0 rfl) ?_
  refine lv_ishr hx hb dX12_four_17 ?_
  refine lv_topi (fun y_11 ey_11 => ?_)
  refine lv_i2b hx hb dX12_four_18 rfl ?_
  refine lv_topi (fun y_12 ey_12 => ?_)
  refine va_bast hx hb hK hP hD hS 1 0 rfl rfl (z_vp h_10 rfl) dX12_four_19 (fun H locs hP hD hS => ?_)
  generalize ef_13 : (upd f_8 (y_9 : Int32).toNatClampNeg (vp_nar .byte y_12)) = f_13 at hP hD
  have hP : va_P D vwCl [(mo, .inr (11, [.int m0, .ref m1, .int y_9, .int m3, .int m4, .int m5, .ref m6, .ref m7, .ref m8, .ref m9, .ref m10, .int m11, .int m12, .int m13, .int m14, .int m15, .int m16, .long m17, .int m18, .int m19, .int m20, .ref m21, .ref m22, .int m23, .int m24, .int m25, .int m26, .ref m27, .int m28, .ref m29, .int m30, .int m31, .ref m32, .int m33, .ref m34, .ref m35, .int m36, .int m37, .ref m38, .int m39, .int m40, .int m41, .ref m42, .int m43, .ref m44, .int m45, .int m46, .int m47, .int m48, .int m49, .ref m50, .ref m51, .ref m52, .ref m53])), (m1, .inl (m1t, 940, .inl f_13)), (m6, .inl (m6t, 283, .inl m6f)), (m7, .inl (m7t, 67, .inl m7f)), (m8, .inl (m8t, 135, .inl m8f)), (m9, .inl (m9t, 36, .inr (.inl m9f))), (m10, .inl (m10t, 21, .inr (.inl m10f))), (m21, .inl (m21t, 280, .inl m21f)), (m22, .inl (m22t, 35, .inl m22f)), (m27, .inl (m27t, 4, .inl m27f)), (m29, .inl (m29t, 5, .inl m29f)), (m32, .inl (m32t, 7, .inl m32f)), (m34, .inl (m34t, 25, .inl m34f)), (m35, .inl (m35t, 25, .inl m35f)), (m38, .inl (m38t, 48, .inl m38f)), (m42, .inl (m42t, 4, .inl m42f)), (m44, .inl (m44t, 45, .inl m44f)), (m50, .inl (m50t, 45, .inl m50f)), (m51, .inl (m51t, 566, .inl m51f)), (m52, .inl (m52t, 36, .inr (.inl m52f))), (m53, .inl (m53t, 2, .inl m53f))] H := hP
  have hD : va_D A [(mo, .inr (11, [.int m0, .ref m1, .int y_9, .int m3, .int m4, .int m5, .ref m6, .ref m7, .ref m8, .ref m9, .ref m10, .int m11, .int m12, .int m13, .int m14, .int m15, .int m16, .long m17, .int m18, .int m19, .int m20, .ref m21, .ref m22, .int m23, .int m24, .int m25, .int m26, .ref m27, .int m28, .ref m29, .int m30, .int m31, .ref m32, .int m33, .ref m34, .ref m35, .int m36, .int m37, .ref m38, .int m39, .int m40, .int m41, .ref m42, .int m43, .ref m44, .int m45, .int m46, .int m47, .int m48, .int m49, .ref m50, .ref m51, .ref m52, .ref m53])), (m1, .inl (m1t, 940, .inl f_13)), (m6, .inl (m6t, 283, .inl m6f)), (m7, .inl (m7t, 67, .inl m7f)), (m8, .inl (m8t, 135, .inl m8f)), (m9, .inl (m9t, 36, .inr (.inl m9f))), (m10, .inl (m10t, 21, .inr (.inl m10f))), (m21, .inl (m21t, 280, .inl m21f)), (m22, .inl (m22t, 35, .inl m22f)), (m27, .inl (m27t, 4, .inl m27f)), (m29, .inl (m29t, 5, .inl m29f)), (m32, .inl (m32t, 7, .inl m32f)), (m34, .inl (m34t, 25, .inl m34f)), (m35, .inl (m35t, 25, .inl m35f)), (m38, .inl (m38t, 48, .inl m38f)), (m42, .inl (m42t, 4, .inl m42f)), (m44, .inl (m44t, 45, .inl m44f)), (m50, .inl (m50t, 45, .inl m50f)), (m51, .inl (m51t, 566, .inl m51f)), (m52, .inl (m52t, 36, .inr (.inl m52f))), (m53, .inl (m53t, 2, .inl m53f))] := hD
  refine lv_aload_n hx hb dX12_four_20 rfl (lv_at hl 1 rfl) ?_
  refine lv_dup hx hb dX12_four_21 rfl ?_
  refine va_get (D := D) (ci := 11) (v := .int y_9) (C := RX12) (T := TX12) (N := 54) hx hb hts hiX12 hown hK hP 0 rfl rfl 2 (by decide) (hts _ (List.mem_of_getElem? (i := 2) rfl)) (fun _ h9 => h9) rfl dX12_four_22 ?_
  refine lv_iconst (v := 1) hx hb dX12_four_25 (by decide) ?_
  refine lv_iadd hx hb dX12_four_26 ?_
  refine lv_topi (fun y_14 ey_14 => ?_)
  have h_15 : z_in 3 931 y_14 := by rw [ey_14]; exact z_add h_10 (z_lit (x := 1) (a := 1) (b := 1) rfl) rfl rfl
  have ty_14 : y_14.toInt = y_9.toInt + 1 := by rw [ey_14]; exact (z_addT h_10 (z_lit (x := 1) (a := 1) (b := 1) rfl) rfl).trans rfl
  refine va_put (D := D) (ci := 11) (v := .int y_14) (ty := tyX12 2) (C := RX12) (T := TX12) (N := 54) hx hb hts hiX12 tyX12 tyX12_ok nmX12 hown hK hP hD hS 0 rfl rfl 2 (by decide) (hts _ (List.mem_of_getElem? (i := 2) rfl)) (fun _ h9 => h9) rfl (tyX12_ok 2 (by decide)) rfl rfl (Nat.le_of_ble_eq_true rfl) dX12_four_27 (fun H locs hP hD hS => ?_)
  have hP : va_P D vwCl [(mo, .inr (11, [.int m0, .ref m1, .int y_14, .int m3, .int m4, .int m5, .ref m6, .ref m7, .ref m8, .ref m9, .ref m10, .int m11, .int m12, .int m13, .int m14, .int m15, .int m16, .long m17, .int m18, .int m19, .int m20, .ref m21, .ref m22, .int m23, .int m24, .int m25, .int m26, .ref m27, .int m28, .ref m29, .int m30, .int m31, .ref m32, .int m33, .ref m34, .ref m35, .int m36, .int m37, .ref m38, .int m39, .int m40, .int m41, .ref m42, .int m43, .ref m44, .int m45, .int m46, .int m47, .int m48, .int m49, .ref m50, .ref m51, .ref m52, .ref m53])), (m1, .inl (m1t, 940, .inl f_13)), (m6, .inl (m6t, 283, .inl m6f)), (m7, .inl (m7t, 67, .inl m7f)), (m8, .inl (m8t, 135, .inl m8f)), (m9, .inl (m9t, 36, .inr (.inl m9f))), (m10, .inl (m10t, 21, .inr (.inl m10f))), (m21, .inl (m21t, 280, .inl m21f)), (m22, .inl (m22t, 35, .inl m22f)), (m27, .inl (m27t, 4, .inl m27f)), (m29, .inl (m29t, 5, .inl m29f)), (m32, .inl (m32t, 7, .inl m32f)), (m34, .inl (m34t, 25, .inl m34f)), (m35, .inl (m35t, 25, .inl m35f)), (m38, .inl (m38t, 48, .inl m38f)), (m42, .inl (m42t, 4, .inl m42f)), (m44, .inl (m44t, 45, .inl m44f)), (m50, .inl (m50t, 45, .inl m50f)), (m51, .inl (m51t, 566, .inl m51f)), (m52, .inl (m52t, 36, .inr (.inl m52f))), (m53, .inl (m53t, 2, .inl m53f))] H := hP
  have hD : va_D A [(mo, .inr (11, [.int m0, .ref m1, .int y_14, .int m3, .int m4, .int m5, .ref m6, .ref m7, .ref m8, .ref m9, .ref m10, .int m11, .int m12, .int m13, .int m14, .int m15, .int m16, .long m17, .int m18, .int m19, .int m20, .ref m21, .ref m22, .int m23, .int m24, .int m25, .int m26, .ref m27, .int m28, .ref m29, .int m30, .int m31, .ref m32, .int m33, .ref m34, .ref m35, .int m36, .int m37, .ref m38, .int m39, .int m40, .int m41, .ref m42, .int m43, .ref m44, .int m45, .int m46, .int m47, .int m48, .int m49, .ref m50, .ref m51, .ref m52, .ref m53])), (m1, .inl (m1t, 940, .inl f_13)), (m6, .inl (m6t, 283, .inl m6f)), (m7, .inl (m7t, 67, .inl m7f)), (m8, .inl (m8t, 135, .inl m8f)), (m9, .inl (m9t, 36, .inr (.inl m9f))), (m10, .inl (m10t, 21, .inr (.inl m10f))), (m21, .inl (m21t, 280, .inl m21f)), (m22, .inl (m22t, 35, .inl m22f)), (m27, .inl (m27t, 4, .inl m27f)), (m29, .inl (m29t, 5, .inl m29f)), (m32, .inl (m32t, 7, .inl m32f)), (m34, .inl (m34t, 25, .inl m34f)), (m35, .inl (m35t, 25, .inl m35f)), (m38, .inl (m38t, 48, .inl m38f)), (m42, .inl (m42t, 4, .inl m42f)), (m44, .inl (m44t, 45, .inl m44f)), (m50, .inl (m50t, 45, .inl m50f)), (m51, .inl (m51t, 566, .inl m51f)), (m52, .inl (m52t, 36, .inr (.inl m52f))), (m53, .inl (m53t, 2, .inl m53f))] := hD
  refine lv_iinc (v := 0) (lv' := [(2, .int 0), (0, .ref mo), (1, .int i0)]) hx hb dX12_four_30 hl (k := 0) rfl (by decide) (by decide) rfl (fun ls hl => ?_)
  refine lv_goto (tgt := 3) hx hb dX12_four_33 (by decide) ?_
  refine lv_iload_n hx hb dX12_four_3 rfl (lv_at hl 0 rfl) ?_
  refine lv_if_lt (tgt := 36) hx hb dX12_four_4 (by decide) (fun h9 => absurd h9 (by decide)) (fun _ => ?_)
  refine lv_aload_n hx hb dX12_four_7 rfl (lv_at hl 1 rfl) ?_
  refine va_get (D := D) (ci := 11) (v := .ref m1) (C := RX12) (T := TX12) (N := 54) hx hb hts hiX12 hown hK hP 0 rfl rfl 1 (by decide) (hts _ (List.mem_of_getElem? (i := 1) rfl)) (fun _ h9 => h9) rfl dX12_four_8 ?_
  refine lv_aload_n hx hb dX12_four_11 rfl (lv_at hl 1 rfl) ?_
  refine va_get (D := D) (ci := 11) (v := .int y_14) (C := RX12) (T := TX12) (N := 54) hx hb hts hiX12 hown hK hP 0 rfl rfl 2 (by decide) (hts _ (List.mem_of_getElem? (i := 2) rfl)) (fun _ h9 => h9) rfl dX12_four_12 ?_
  refine lv_iload_n hx hb dX12_four_15 rfl (lv_at hl 2 rfl) ?_
  refine lv_iload_n hx hb dX12_four_16 rfl (lv_at hl 0 rfl) ?_
  refine lv_ishr hx hb dX12_four_17 ?_
  refine lv_topi (fun y_16 ey_16 => ?_)
  refine lv_i2b hx hb dX12_four_18 rfl ?_
  refine lv_topi (fun y_17 ey_17 => ?_)
  refine va_bast hx hb hK hP hD hS 1 0 rfl rfl (z_vp h_15 rfl) dX12_four_19 (fun H locs hP hD hS => ?_)
  generalize ef_18 : (upd f_13 (y_14 : Int32).toNatClampNeg (vp_nar .byte y_17)) = f_18 at hP hD
  have hP : va_P D vwCl [(mo, .inr (11, [.int m0, .ref m1, .int y_14, .int m3, .int m4, .int m5, .ref m6, .ref m7, .ref m8, .ref m9, .ref m10, .int m11, .int m12, .int m13, .int m14, .int m15, .int m16, .long m17, .int m18, .int m19, .int m20, .ref m21, .ref m22, .int m23, .int m24, .int m25, .int m26, .ref m27, .int m28, .ref m29, .int m30, .int m31, .ref m32, .int m33, .ref m34, .ref m35, .int m36, .int m37, .ref m38, .int m39, .int m40, .int m41, .ref m42, .int m43, .ref m44, .int m45, .int m46, .int m47, .int m48, .int m49, .ref m50, .ref m51, .ref m52, .ref m53])), (m1, .inl (m1t, 940, .inl f_18)), (m6, .inl (m6t, 283, .inl m6f)), (m7, .inl (m7t, 67, .inl m7f)), (m8, .inl (m8t, 135, .inl m8f)), (m9, .inl (m9t, 36, .inr (.inl m9f))), (m10, .inl (m10t, 21, .inr (.inl m10f))), (m21, .inl (m21t, 280, .inl m21f)), (m22, .inl (m22t, 35, .inl m22f)), (m27, .inl (m27t, 4, .inl m27f)), (m29, .inl (m29t, 5, .inl m29f)), (m32, .inl (m32t, 7, .inl m32f)), (m34, .inl (m34t, 25, .inl m34f)), (m35, .inl (m35t, 25, .inl m35f)), (m38, .inl (m38t, 48, .inl m38f)), (m42, .inl (m42t, 4, .inl m42f)), (m44, .inl (m44t, 45, .inl m44f)), (m50, .inl (m50t, 45, .inl m50f)), (m51, .inl (m51t, 566, .inl m51f)), (m52, .inl (m52t, 36, .inr (.inl m52f))), (m53, .inl (m53t, 2, .inl m53f))] H := hP
  have hD : va_D A [(mo, .inr (11, [.int m0, .ref m1, .int y_14, .int m3, .int m4, .int m5, .ref m6, .ref m7, .ref m8, .ref m9, .ref m10, .int m11, .int m12, .int m13, .int m14, .int m15, .int m16, .long m17, .int m18, .int m19, .int m20, .ref m21, .ref m22, .int m23, .int m24, .int m25, .int m26, .ref m27, .int m28, .ref m29, .int m30, .int m31, .ref m32, .int m33, .ref m34, .ref m35, .int m36, .int m37, .ref m38, .int m39, .int m40, .int m41, .ref m42, .int m43, .ref m44, .int m45, .int m46, .int m47, .int m48, .int m49, .ref m50, .ref m51, .ref m52, .ref m53])), (m1, .inl (m1t, 940, .inl f_18)), (m6, .inl (m6t, 283, .inl m6f)), (m7, .inl (m7t, 67, .inl m7f)), (m8, .inl (m8t, 135, .inl m8f)), (m9, .inl (m9t, 36, .inr (.inl m9f))), (m10, .inl (m10t, 21, .inr (.inl m10f))), (m21, .inl (m21t, 280, .inl m21f)), (m22, .inl (m22t, 35, .inl m22f)), (m27, .inl (m27t, 4, .inl m27f)), (m29, .inl (m29t, 5, .inl m29f)), (m32, .inl (m32t, 7, .inl m32f)), (m34, .inl (m34t, 25, .inl m34f)), (m35, .inl (m35t, 25, .inl m35f)), (m38, .inl (m38t, 48, .inl m38f)), (m42, .inl (m42t, 4, .inl m42f)), (m44, .inl (m44t, 45, .inl m44f)), (m50, .inl (m50t, 45, .inl m50f)), (m51, .inl (m51t, 566, .inl m51f)), (m52, .inl (m52t, 36, .inr (.inl m52f))), (m53, .inl (m53t, 2, .inl m53f))] := hD
  refine lv_aload_n hx hb dX12_four_20 rfl (lv_at hl 1 rfl) ?_
  refine lv_dup hx hb dX12_four_21 rfl ?_
  refine va_get (D := D) (ci := 11) (v := .int y_14) (C := RX12) (T := TX12) (N := 54) hx hb hts hiX12 hown hK hP 0 rfl rfl 2 (by decide) (hts _ (List.mem_of_getElem? (i := 2) rfl)) (fun _ h9 => h9) rfl dX12_four_22 ?_
  refine lv_iconst (v := 1) hx hb dX12_four_25 (by decide) ?_
  refine lv_iadd hx hb dX12_four_26 ?_
  refine lv_topi (fun y_19 ey_19 => ?_)
  have h_20 : z_in 4 932 y_19 := by rw [ey_19]; exact z_add h_15 (z_lit (x := 1) (a := 1) (b := 1) rfl) rfl rfl
  have ty_19 : y_19.toInt = y_14.toInt + 1 := by rw [ey_19]; exact (z_addT h_15 (z_lit (x := 1) (a := 1) (b := 1) rfl) rfl).trans rfl
  refine va_put (D := D) (ci := 11) (v := .int y_19) (ty := tyX12 2) (C := RX12) (T := TX12) (N := 54) hx hb hts hiX12 tyX12 tyX12_ok nmX12 hown hK hP hD hS 0 rfl rfl 2 (by decide) (hts _ (List.mem_of_getElem? (i := 2) rfl)) (fun _ h9 => h9) rfl (tyX12_ok 2 (by decide)) rfl rfl (Nat.le_of_ble_eq_true rfl) dX12_four_27 (fun H locs hP hD hS => ?_)
  have hP : va_P D vwCl [(mo, .inr (11, [.int m0, .ref m1, .int y_19, .int m3, .int m4, .int m5, .ref m6, .ref m7, .ref m8, .ref m9, .ref m10, .int m11, .int m12, .int m13, .int m14, .int m15, .int m16, .long m17, .int m18, .int m19, .int m20, .ref m21, .ref m22, .int m23, .int m24, .int m25, .int m26, .ref m27, .int m28, .ref m29, .int m30, .int m31, .ref m32, .int m33, .ref m34, .ref m35, .int m36, .int m37, .ref m38, .int m39, .int m40, .int m41, .ref m42, .int m43, .ref m44, .int m45, .int m46, .int m47, .int m48, .int m49, .ref m50, .ref m51, .ref m52, .ref m53])), (m1, .inl (m1t, 940, .inl f_18)), (m6, .inl (m6t, 283, .inl m6f)), (m7, .inl (m7t, 67, .inl m7f)), (m8, .inl (m8t, 135, .inl m8f)), (m9, .inl (m9t, 36, .inr (.inl m9f))), (m10, .inl (m10t, 21, .inr (.inl m10f))), (m21, .inl (m21t, 280, .inl m21f)), (m22, .inl (m22t, 35, .inl m22f)), (m27, .inl (m27t, 4, .inl m27f)), (m29, .inl (m29t, 5, .inl m29f)), (m32, .inl (m32t, 7, .inl m32f)), (m34, .inl (m34t, 25, .inl m34f)), (m35, .inl (m35t, 25, .inl m35f)), (m38, .inl (m38t, 48, .inl m38f)), (m42, .inl (m42t, 4, .inl m42f)), (m44, .inl (m44t, 45, .inl m44f)), (m50, .inl (m50t, 45, .inl m50f)), (m51, .inl (m51t, 566, .inl m51f)), (m52, .inl (m52t, 36, .inr (.inl m52f))), (m53, .inl (m53t, 2, .inl m53f))] H := hP
  have hD : va_D A [(mo, .inr (11, [.int m0, .ref m1, .int y_19, .int m3, .int m4, .int m5, .ref m6, .ref m7, .ref m8, .ref m9, .ref m10, .int m11, .int m12, .int m13, .int m14, .int m15, .int m16, .long m17, .int m18, .int m19, .int m20, .ref m21, .ref m22, .int m23, .int m24, .int m25, .int m26, .ref m27, .int m28, .ref m29, .int m30, .int m31, .ref m32, .int m33, .ref m34, .ref m35, .int m36, .int m37, .ref m38, .int m39, .int m40, .int m41, .ref m42, .int m43, .ref m44, .int m45, .int m46, .int m47, .int m48, .int m49, .ref m50, .ref m51, .ref m52, .ref m53])), (m1, .inl (m1t, 940, .inl f_18)), (m6, .inl (m6t, 283, .inl m6f)), (m7, .inl (m7t, 67, .inl m7f)), (m8, .inl (m8t, 135, .inl m8f)), (m9, .inl (m9t, 36, .inr (.inl m9f))), (m10, .inl (m10t, 21, .inr (.inl m10f))), (m21, .inl (m21t, 280, .inl m21f)), (m22, .inl (m22t, 35, .inl m22f)), (m27, .inl (m27t, 4, .inl m27f)), (m29, .inl (m29t, 5, .inl m29f)), (m32, .inl (m32t, 7, .inl m32f)), (m34, .inl (m34t, 25, .inl m34f)), (m35, .inl (m35t, 25, .inl m35f)), (m38, .inl (m38t, 48, .inl m38f)), (m42, .inl (m42t, 4, .inl m42f)), (m44, .inl (m44t, 45, .inl m44f)), (m50, .inl (m50t, 45, .inl m50f)), (m51, .inl (m51t, 566, .inl m51f)), (m52, .inl (m52t, 36, .inr (.inl m52f))), (m53, .inl (m53t, 2, .inl m53f))] := hD
  refine lv_iinc (v := (-8)) (lv' := [(2, .int (-8)), (0, .ref mo), (1, .int i0)]) hx hb dX12_four_30 hl (k := 0) rfl (by decide) (by decide) rfl (fun ls hl => ?_)
  refine lv_goto (tgt := 3) hx hb dX12_four_33 (by decide) ?_
  refine lv_iload_n hx hb dX12_four_3 rfl (lv_at hl 0 rfl) ?_
  refine lv_if_lt (tgt := 36) hx hb dX12_four_4 (by decide) (fun _ => ?_) (fun h9 => absurd (by decide) h9)
  exact hret ([(mo, .inr (11, [.int m0, .ref m1, .int y_19, .int m3, .int m4, .int m5, .ref m6, .ref m7, .ref m8, .ref m9, .ref m10, .int m11, .int m12, .int m13, .int m14, .int m15, .int m16, .long m17, .int m18, .int m19, .int m20, .ref m21, .ref m22, .int m23, .int m24, .int m25, .int m26, .ref m27, .int m28, .ref m29, .int m30, .int m31, .ref m32, .int m33, .ref m34, .ref m35, .int m36, .int m37, .ref m38, .int m39, .int m40, .int m41, .ref m42, .int m43, .ref m44, .int m45, .int m46, .int m47, .int m48, .int m49, .ref m50, .ref m51, .ref m52, .ref m53])), (m1, .inl (m1t, 940, .inl f_18)), (m6, .inl (m6t, 283, .inl m6f)), (m7, .inl (m7t, 67, .inl m7f)), (m8, .inl (m8t, 135, .inl m8f)), (m9, .inl (m9t, 36, .inr (.inl m9f))), (m10, .inl (m10t, 21, .inr (.inl m10f))), (m21, .inl (m21t, 280, .inl m21f)), (m22, .inl (m22t, 35, .inl m22f)), (m27, .inl (m27t, 4, .inl m27f)), (m29, .inl (m29t, 5, .inl m29f)), (m32, .inl (m32t, 7, .inl m32f)), (m34, .inl (m34t, 25, .inl m34f)), (m35, .inl (m35t, 25, .inl m35f)), (m38, .inl (m38t, 48, .inl m38f)), (m42, .inl (m42t, 4, .inl m42f)), (m44, .inl (m44t, 45, .inl m44f)), (m50, .inl (m50t, 45, .inl m50f)), (m51, .inl (m51t, 566, .inl m51f)), (m52, .inl (m52t, 36, .inr (.inl m52f))), (m53, .inl (m53t, 2, .inl m53f))], []) _ _ _ _ dX12_four_36 ⟨y_19, f_18, h_20, (show z_a4 m2 y_19 from by have q0 := ty_19; have q1 := ty_14; have q2 := ty_9; have q3 := ty_4; unfold z_a4; omega), (z_m4I ef_3 ef_8 ef_13 ef_18 ey_2 ey_7 ey_12 ey_17 ey_1 ey_6 ey_11 ey_16 ty_4 ty_9 ty_14), rfl⟩ hP (hK.sub [] rfl) hD hS

set_option maxHeartbeats 8000000 in
set_option maxRecDepth 100000 in
theorem m_four932 (l : Launch) (D : va_G) (ad : Nat → Nat) (mo : Nat) (m0 : Int32) (m2 : Int32) (m3 : Int32) (m4 : Int32) (m5 : Int32) (m11 : Int32) (m12 : Int32) (m13 : Int32) (m14 : Int32) (m15 : Int32) (m16 : Int32) (m17 : Int64) (m18 : Int32) (m19 : Int32) (m20 : Int32) (m23 : Int32) (m24 : Int32) (m25 : Int32) (m26 : Int32) (m28 : Int32) (m30 : Int32) (m31 : Int32) (m33 : Int32) (m36 : Int32) (m37 : Int32) (m39 : Int32) (m40 : Int32) (m41 : Int32) (m43 : Int32) (m45 : Int32) (m46 : Int32) (m47 : Int32) (m48 : Int32) (m49 : Int32) (m1 : Nat) (m1t : ClassId) (m1f : Nat → Int32) (m6 : Nat) (m6t : ClassId) (m6f : Nat → Int32) (m7 : Nat) (m7t : ClassId) (m7f : Nat → Int32) (m8 : Nat) (m8t : ClassId) (m8f : Nat → Int32) (m9 : Nat) (m9t : ClassId) (m9f : Nat → Int64) (m10 : Nat) (m10t : ClassId) (m10f : Nat → Int64) (m21 : Nat) (m21t : ClassId) (m21f : Nat → Int32) (m22 : Nat) (m22t : ClassId) (m22f : Nat → Int32) (m27 : Nat) (m27t : ClassId) (m27f : Nat → Int32) (m29 : Nat) (m29t : ClassId) (m29f : Nat → Int32) (m32 : Nat) (m32t : ClassId) (m32f : Nat → Int32) (m34 : Nat) (m34t : ClassId) (m34f : Nat → Int32) (m35 : Nat) (m35t : ClassId) (m35f : Nat → Int32) (m38 : Nat) (m38t : ClassId) (m38f : Nat → Int32) (m42 : Nat) (m42t : ClassId) (m42f : Nat → Int32) (m44 : Nat) (m44t : ClassId) (m44f : Nat → Int32) (m50 : Nat) (m50t : ClassId) (m50f : Nat → Int32) (m51 : Nat) (m51t : ClassId) (m51f : Nat → Int32) (m52 : Nat) (m52t : ClassId) (m52f : Nat → Int64) (m53 : Nat) (m53t : ClassId) (m53f : Nat → Int32) (i0 : Int32) (hm2 : z_in 0 932 m2) (hm3 : z_in 0 940 m3) (hm4 : z_in 0 940 m4) (hm5 : z_in 0 940 m5) (hm11 : z_in 0 4 m11) (hm20 : z_in 0 1 m20) (hm23 : z_in 0 8 m23) (hm26 : z_in 0 1 m26) (hm28 : z_in (-1) 4 m28) (hm31 : z_in 0 1 m31) (hm33 : z_in (-1) 7 m33) (hm37 : z_in 0 1 m37) (hm39 : z_in 0 48 m39) (hm41 : z_in 0 40 m41) (hm43 : z_in 0 1 m43) (hm45 : z_in 0 45 m45) (hm46 : z_in 0 20 m46) (hm47 : z_in 0 45 m47) (hm49 : z_in 0 1 m49) (hm6f : z_sr m6f) (hm7f : z_hr m7f) (hm21f : z_ar rgU m21f) (hm22f : z_ar rgB m22f) (hm27f : z_al 0 4 m27f) (hm32f : z_al 0 4 m32f) (hm34f : z_al 0 1 m34f) (hm35f : z_al 0 1 m35f) (hm50f : z_al 0 1 m50f) (hm51f : z_ir m51f) (hm53f : z_al 0 1 m53f) : z_Mv l yX12_four wsX12_four { frames := 0, cells := 0, slots := 0, locals := 0 } D ad [.ref mo, .int i0] [(mo, .inr (11, [.int m0, .ref m1, .int m2, .int m3, .int m4, .int m5, .ref m6, .ref m7, .ref m8, .ref m9, .ref m10, .int m11, .int m12, .int m13, .int m14, .int m15, .int m16, .long m17, .int m18, .int m19, .int m20, .ref m21, .ref m22, .int m23, .int m24, .int m25, .int m26, .ref m27, .int m28, .ref m29, .int m30, .int m31, .ref m32, .int m33, .ref m34, .ref m35, .int m36, .int m37, .ref m38, .int m39, .int m40, .int m41, .ref m42, .int m43, .ref m44, .int m45, .int m46, .int m47, .int m48, .int m49, .ref m50, .ref m51, .ref m52, .ref m53])), (m1, .inl (m1t, 940, .inl m1f)), (m6, .inl (m6t, 283, .inl m6f)), (m7, .inl (m7t, 67, .inl m7f)), (m8, .inl (m8t, 135, .inl m8f)), (m9, .inl (m9t, 36, .inr (.inl m9f))), (m10, .inl (m10t, 21, .inr (.inl m10f))), (m21, .inl (m21t, 280, .inl m21f)), (m22, .inl (m22t, 35, .inl m22f)), (m27, .inl (m27t, 4, .inl m27f)), (m29, .inl (m29t, 5, .inl m29f)), (m32, .inl (m32t, 7, .inl m32f)), (m34, .inl (m34t, 25, .inl m34f)), (m35, .inl (m35t, 25, .inl m35f)), (m38, .inl (m38t, 48, .inl m38f)), (m42, .inl (m42t, 4, .inl m42f)), (m44, .inl (m44t, 45, .inl m44f)), (m50, .inl (m50t, 45, .inl m50f)), (m51, .inl (m51t, 566, .inl m51f)), (m52, .inl (m52t, 36, .inr (.inl m52f))), (m53, .inl (m53t, 2, .inl m53f))] [(m1t, .byte), (m6t, .int), (m7t, .int), (m8t, .int), (m9t, .long), (m10t, .long), (m21t, .int), (m22t, .int), (m27t, .int), (m29t, .int), (m32t, .int), (m34t, .boolean), (m35t, .boolean), (m38t, .byte), (m42t, .int), (m44t, .int), (m50t, .boolean), (m51t, .int), (m52t, .long), (m53t, .boolean)] 0 0 (fun u9 => ∃ (x0_2 : Int32) (x1_f : Nat → Int32), z_in 4 936 x0_2 ∧ z_a4 m2 x0_2 ∧ z_bn4 x1_f m1f m2 i0 ∧ u9 = ([(mo, .inr (11, [.int m0, .ref m1, .int x0_2, .int m3, .int m4, .int m5, .ref m6, .ref m7, .ref m8, .ref m9, .ref m10, .int m11, .int m12, .int m13, .int m14, .int m15, .int m16, .long m17, .int m18, .int m19, .int m20, .ref m21, .ref m22, .int m23, .int m24, .int m25, .int m26, .ref m27, .int m28, .ref m29, .int m30, .int m31, .ref m32, .int m33, .ref m34, .ref m35, .int m36, .int m37, .ref m38, .int m39, .int m40, .int m41, .ref m42, .int m43, .ref m44, .int m45, .int m46, .int m47, .int m48, .int m49, .ref m50, .ref m51, .ref m52, .ref m53])), (m1, .inl (m1t, 940, .inl x1_f)), (m6, .inl (m6t, 283, .inl m6f)), (m7, .inl (m7t, 67, .inl m7f)), (m8, .inl (m8t, 135, .inl m8f)), (m9, .inl (m9t, 36, .inr (.inl m9f))), (m10, .inl (m10t, 21, .inr (.inl m10f))), (m21, .inl (m21t, 280, .inl m21f)), (m22, .inl (m22t, 35, .inl m22f)), (m27, .inl (m27t, 4, .inl m27f)), (m29, .inl (m29t, 5, .inl m29f)), (m32, .inl (m32t, 7, .inl m32f)), (m34, .inl (m34t, 25, .inl m34f)), (m35, .inl (m35t, 25, .inl m35f)), (m38, .inl (m38t, 48, .inl m38f)), (m42, .inl (m42t, 4, .inl m42f)), (m44, .inl (m44t, 45, .inl m44f)), (m50, .inl (m50t, 45, .inl m50f)), (m51, .inl (m51t, 566, .inl m51f)), (m52, .inl (m52t, 36, .inr (.inl m52f))), (m53, .inl (m53t, 2, .inl m53f))], [])) := by
  refine z_ofV (cc := cX12_four) (maxL := 3) (by decide) rfl (Nat.le_of_ble_eq_true rfl) ?_
  intro p e s m below meth c Q A ls hx hb hml hown hts hin hK hP hD hA hE hO hS hl hret
  have hown : s.vm.findClass RX12 = some m.cls := hown
  have hiX12 : ∀ w ∈ wsX120, w ∈ wsX12_four := fun _ h9 => List.mem_cons_of_mem _ (List.mem_append_right _ h9)
  have hl : lv_has ls 3 [(0, .ref mo), (1, .int i0)] := hl
  refine lv_bipush (v := 24) hx hb dX12_four_0 (by decide) ?_
  refine lv_istore_n (lv' := [(2, .int 24), (0, .ref mo), (1, .int i0)]) hx hb dX12_four_2 rfl hl (by decide) rfl (fun ls hl => ?_)
  refine lv_iload_n hx hb dX12_four_3 rfl (lv_at hl 0 rfl) ?_
  refine lv_if_lt (tgt := 36) hx hb dX12_four_4 (by decide) (fun h9 => absurd h9 (by decide)) (fun _ => ?_)
  refine lv_aload_n hx hb dX12_four_7 rfl (lv_at hl 1 rfl) ?_
  refine va_get (D := D) (ci := 11) (v := .ref m1) (C := RX12) (T := TX12) (N := 54) hx hb hts hiX12 hown hK hP 0 rfl rfl 1 (by decide) (hts _ (List.mem_of_getElem? (i := 1) rfl)) (fun _ h9 => h9) rfl dX12_four_8 ?_
  refine lv_aload_n hx hb dX12_four_11 rfl (lv_at hl 1 rfl) ?_
  refine va_get (D := D) (ci := 11) (v := .int m2) (C := RX12) (T := TX12) (N := 54) hx hb hts hiX12 hown hK hP 0 rfl rfl 2 (by decide) (hts _ (List.mem_of_getElem? (i := 2) rfl)) (fun _ h9 => h9) rfl dX12_four_12 ?_
  refine lv_iload_n hx hb dX12_four_15 rfl (lv_at hl 2 rfl) ?_
  refine lv_iload_n hx hb dX12_four_16 rfl (lv_at hl 0 rfl) ?_
  refine lv_ishr hx hb dX12_four_17 ?_
  refine lv_topi (fun y_1 ey_1 => ?_)
  refine lv_i2b hx hb dX12_four_18 rfl ?_
  refine lv_topi (fun y_2 ey_2 => ?_)
  refine va_bast hx hb hK hP hD hS 1 0 rfl rfl (z_vp hm2 rfl) dX12_four_19 (fun H locs hP hD hS => ?_)
  generalize ef_3 : (upd m1f (m2 : Int32).toNatClampNeg (vp_nar .byte y_2)) = f_3 at hP hD
  have hP : va_P D vwCl [(mo, .inr (11, [.int m0, .ref m1, .int m2, .int m3, .int m4, .int m5, .ref m6, .ref m7, .ref m8, .ref m9, .ref m10, .int m11, .int m12, .int m13, .int m14, .int m15, .int m16, .long m17, .int m18, .int m19, .int m20, .ref m21, .ref m22, .int m23, .int m24, .int m25, .int m26, .ref m27, .int m28, .ref m29, .int m30, .int m31, .ref m32, .int m33, .ref m34, .ref m35, .int m36, .int m37, .ref m38, .int m39, .int m40, .int m41, .ref m42, .int m43, .ref m44, .int m45, .int m46, .int m47, .int m48, .int m49, .ref m50, .ref m51, .ref m52, .ref m53])), (m1, .inl (m1t, 940, .inl f_3)), (m6, .inl (m6t, 283, .inl m6f)), (m7, .inl (m7t, 67, .inl m7f)), (m8, .inl (m8t, 135, .inl m8f)), (m9, .inl (m9t, 36, .inr (.inl m9f))), (m10, .inl (m10t, 21, .inr (.inl m10f))), (m21, .inl (m21t, 280, .inl m21f)), (m22, .inl (m22t, 35, .inl m22f)), (m27, .inl (m27t, 4, .inl m27f)), (m29, .inl (m29t, 5, .inl m29f)), (m32, .inl (m32t, 7, .inl m32f)), (m34, .inl (m34t, 25, .inl m34f)), (m35, .inl (m35t, 25, .inl m35f)), (m38, .inl (m38t, 48, .inl m38f)), (m42, .inl (m42t, 4, .inl m42f)), (m44, .inl (m44t, 45, .inl m44f)), (m50, .inl (m50t, 45, .inl m50f)), (m51, .inl (m51t, 566, .inl m51f)), (m52, .inl (m52t, 36, .inr (.inl m52f))), (m53, .inl (m53t, 2, .inl m53f))] H := hP
  have hD : va_D A [(mo, .inr (11, [.int m0, .ref m1, .int m2, .int m3, .int m4, .int m5, .ref m6, .ref m7, .ref m8, .ref m9, .ref m10, .int m11, .int m12, .int m13, .int m14, .int m15, .int m16, .long m17, .int m18, .int m19, .int m20, .ref m21, .ref m22, .int m23, .int m24, .int m25, .int m26, .ref m27, .int m28, .ref m29, .int m30, .int m31, .ref m32, .int m33, .ref m34, .ref m35, .int m36, .int m37, .ref m38, .int m39, .int m40, .int m41, .ref m42, .int m43, .ref m44, .int m45, .int m46, .int m47, .int m48, .int m49, .ref m50, .ref m51, .ref m52, .ref m53])), (m1, .inl (m1t, 940, .inl f_3)), (m6, .inl (m6t, 283, .inl m6f)), (m7, .inl (m7t, 67, .inl m7f)), (m8, .inl (m8t, 135, .inl m8f)), (m9, .inl (m9t, 36, .inr (.inl m9f))), (m10, .inl (m10t, 21, .inr (.inl m10f))), (m21, .inl (m21t, 280, .inl m21f)), (m22, .inl (m22t, 35, .inl m22f)), (m27, .inl (m27t, 4, .inl m27f)), (m29, .inl (m29t, 5, .inl m29f)), (m32, .inl (m32t, 7, .inl m32f)), (m34, .inl (m34t, 25, .inl m34f)), (m35, .inl (m35t, 25, .inl m35f)), (m38, .inl (m38t, 48, .inl m38f)), (m42, .inl (m42t, 4, .inl m42f)), (m44, .inl (m44t, 45, .inl m44f)), (m50, .inl (m50t, 45, .inl m50f)), (m51, .inl (m51t, 566, .inl m51f)), (m52, .inl (m52t, 36, .inr (.inl m52f))), (m53, .inl (m53t, 2, .inl m53f))] := hD
  refine lv_aload_n hx hb dX12_four_20 rfl (lv_at hl 1 rfl) ?_
  refine lv_dup hx hb dX12_four_21 rfl ?_
  refine va_get (D := D) (ci := 11) (v := .int m2) (C := RX12) (T := TX12) (N := 54) hx hb hts hiX12 hown hK hP 0 rfl rfl 2 (by decide) (hts _ (List.mem_of_getElem? (i := 2) rfl)) (fun _ h9 => h9) rfl dX12_four_22 ?_
  refine lv_iconst (v := 1) hx hb dX12_four_25 (by decide) ?_
  refine lv_iadd hx hb dX12_four_26 ?_
  refine lv_topi (fun y_4 ey_4 => ?_)
  have h_5 : z_in 1 933 y_4 := by rw [ey_4]; exact z_add hm2 (z_lit (x := 1) (a := 1) (b := 1) rfl) rfl rfl
  have ty_4 : y_4.toInt = m2.toInt + 1 := by rw [ey_4]; exact (z_addT hm2 (z_lit (x := 1) (a := 1) (b := 1) rfl) rfl).trans rfl
  refine va_put (D := D) (ci := 11) (v := .int y_4) (ty := tyX12 2) (C := RX12) (T := TX12) (N := 54) hx hb hts hiX12 tyX12 tyX12_ok nmX12 hown hK hP hD hS 0 rfl rfl 2 (by decide) (hts _ (List.mem_of_getElem? (i := 2) rfl)) (fun _ h9 => h9) rfl (tyX12_ok 2 (by decide)) rfl rfl (Nat.le_of_ble_eq_true rfl) dX12_four_27 (fun H locs hP hD hS => ?_)
  have hP : va_P D vwCl [(mo, .inr (11, [.int m0, .ref m1, .int y_4, .int m3, .int m4, .int m5, .ref m6, .ref m7, .ref m8, .ref m9, .ref m10, .int m11, .int m12, .int m13, .int m14, .int m15, .int m16, .long m17, .int m18, .int m19, .int m20, .ref m21, .ref m22, .int m23, .int m24, .int m25, .int m26, .ref m27, .int m28, .ref m29, .int m30, .int m31, .ref m32, .int m33, .ref m34, .ref m35, .int m36, .int m37, .ref m38, .int m39, .int m40, .int m41, .ref m42, .int m43, .ref m44, .int m45, .int m46, .int m47, .int m48, .int m49, .ref m50, .ref m51, .ref m52, .ref m53])), (m1, .inl (m1t, 940, .inl f_3)), (m6, .inl (m6t, 283, .inl m6f)), (m7, .inl (m7t, 67, .inl m7f)), (m8, .inl (m8t, 135, .inl m8f)), (m9, .inl (m9t, 36, .inr (.inl m9f))), (m10, .inl (m10t, 21, .inr (.inl m10f))), (m21, .inl (m21t, 280, .inl m21f)), (m22, .inl (m22t, 35, .inl m22f)), (m27, .inl (m27t, 4, .inl m27f)), (m29, .inl (m29t, 5, .inl m29f)), (m32, .inl (m32t, 7, .inl m32f)), (m34, .inl (m34t, 25, .inl m34f)), (m35, .inl (m35t, 25, .inl m35f)), (m38, .inl (m38t, 48, .inl m38f)), (m42, .inl (m42t, 4, .inl m42f)), (m44, .inl (m44t, 45, .inl m44f)), (m50, .inl (m50t, 45, .inl m50f)), (m51, .inl (m51t, 566, .inl m51f)), (m52, .inl (m52t, 36, .inr (.inl m52f))), (m53, .inl (m53t, 2, .inl m53f))] H := hP
  have hD : va_D A [(mo, .inr (11, [.int m0, .ref m1, .int y_4, .int m3, .int m4, .int m5, .ref m6, .ref m7, .ref m8, .ref m9, .ref m10, .int m11, .int m12, .int m13, .int m14, .int m15, .int m16, .long m17, .int m18, .int m19, .int m20, .ref m21, .ref m22, .int m23, .int m24, .int m25, .int m26, .ref m27, .int m28, .ref m29, .int m30, .int m31, .ref m32, .int m33, .ref m34, .ref m35, .int m36, .int m37, .ref m38, .int m39, .int m40, .int m41, .ref m42, .int m43, .ref m44, .int m45, .int m46, .int m47, .int m48, .int m49, .ref m50, .ref m51, .ref m52, .ref m53])), (m1, .inl (m1t, 940, .inl f_3)), (m6, .inl (m6t, 283, .inl m6f)), (m7, .inl (m7t, 67, .inl m7f)), (m8, .inl (m8t, 135, .inl m8f)), (m9, .inl (m9t, 36, .inr (.inl m9f))), (m10, .inl (m10t, 21, .inr (.inl m10f))), (m21, .inl (m21t, 280, .inl m21f)), (m22, .inl (m22t, 35, .inl m22f)), (m27, .inl (m27t, 4, .inl m27f)), (m29, .inl (m29t, 5, .inl m29f)), (m32, .inl (m32t, 7, .inl m32f)), (m34, .inl (m34t, 25, .inl m34f)), (m35, .inl (m35t, 25, .inl m35f)), (m38, .inl (m38t, 48, .inl m38f)), (m42, .inl (m42t, 4, .inl m42f)), (m44, .inl (m44t, 45, .inl m44f)), (m50, .inl (m50t, 45, .inl m50f)), (m51, .inl (m51t, 566, .inl m51f)), (m52, .inl (m52t, 36, .inr (.inl m52f))), (m53, .inl (m53t, 2, .inl m53f))] := hD
  refine lv_iinc (v := 16) (lv' := [(2, .int 16), (0, .ref mo), (1, .int i0)]) hx hb dX12_four_30 hl (k := 0) rfl (by decide) (by decide) rfl (fun ls hl => ?_)
  refine lv_goto (tgt := 3) hx hb dX12_four_33 (by decide) ?_
  refine lv_iload_n hx hb dX12_four_3 rfl (lv_at hl 0 rfl) ?_
  refine lv_if_lt (tgt := 36) hx hb dX12_four_4 (by decide) (fun h9 => absurd h9 (by decide)) (fun _ => ?_)
  refine lv_aload_n hx hb dX12_four_7 rfl (lv_at hl 1 rfl) ?_
  refine va_get (D := D) (ci := 11) (v := .ref m1) (C := RX12) (T := TX12) (N := 54) hx hb hts hiX12 hown hK hP 0 rfl rfl 1 (by decide) (hts _ (List.mem_of_getElem? (i := 1) rfl)) (fun _ h9 => h9) rfl dX12_four_8 ?_
  refine lv_aload_n hx hb dX12_four_11 rfl (lv_at hl 1 rfl) ?_
  refine va_get (D := D) (ci := 11) (v := .int y_4) (C := RX12) (T := TX12) (N := 54) hx hb hts hiX12 hown hK hP 0 rfl rfl 2 (by decide) (hts _ (List.mem_of_getElem? (i := 2) rfl)) (fun _ h9 => h9) rfl dX12_four_12 ?_
  refine lv_iload_n hx hb dX12_four_15 rfl (lv_at hl 2 rfl) ?_
  refine lv_iload_n hx hb dX12_four_16 rfl (lv_at hl 0 rfl) ?_
  refine lv_ishr hx hb dX12_four_17 ?_
  refine lv_topi (fun y_6 ey_6 => ?_)
  refine lv_i2b hx hb dX12_four_18 rfl ?_
  refine lv_topi (fun y_7 ey_7 => ?_)
  refine va_bast hx hb hK hP hD hS 1 0 rfl rfl (z_vp h_5 rfl) dX12_four_19 (fun H locs hP hD hS => ?_)
  generalize ef_8 : (upd f_3 (y_4 : Int32).toNatClampNeg (vp_nar .byte y_7)) = f_8 at hP hD
  have hP : va_P D vwCl [(mo, .inr (11, [.int m0, .ref m1, .int y_4, .int m3, .int m4, .int m5, .ref m6, .ref m7, .ref m8, .ref m9, .ref m10, .int m11, .int m12, .int m13, .int m14, .int m15, .int m16, .long m17, .int m18, .int m19, .int m20, .ref m21, .ref m22, .int m23, .int m24, .int m25, .int m26, .ref m27, .int m28, .ref m29, .int m30, .int m31, .ref m32, .int m33, .ref m34, .ref m35, .int m36, .int m37, .ref m38, .int m39, .int m40, .int m41, .ref m42, .int m43, .ref m44, .int m45, .int m46, .int m47, .int m48, .int m49, .ref m50, .ref m51, .ref m52, .ref m53])), (m1, .inl (m1t, 940, .inl f_8)), (m6, .inl (m6t, 283, .inl m6f)), (m7, .inl (m7t, 67, .inl m7f)), (m8, .inl (m8t, 135, .inl m8f)), (m9, .inl (m9t, 36, .inr (.inl m9f))), (m10, .inl (m10t, 21, .inr (.inl m10f))), (m21, .inl (m21t, 280, .inl m21f)), (m22, .inl (m22t, 35, .inl m22f)), (m27, .inl (m27t, 4, .inl m27f)), (m29, .inl (m29t, 5, .inl m29f)), (m32, .inl (m32t, 7, .inl m32f)), (m34, .inl (m34t, 25, .inl m34f)), (m35, .inl (m35t, 25, .inl m35f)), (m38, .inl (m38t, 48, .inl m38f)), (m42, .inl (m42t, 4, .inl m42f)), (m44, .inl (m44t, 45, .inl m44f)), (m50, .inl (m50t, 45, .inl m50f)), (m51, .inl (m51t, 566, .inl m51f)), (m52, .inl (m52t, 36, .inr (.inl m52f))), (m53, .inl (m53t, 2, .inl m53f))] H := hP
  have hD : va_D A [(mo, .inr (11, [.int m0, .ref m1, .int y_4, .int m3, .int m4, .int m5, .ref m6, .ref m7, .ref m8, .ref m9, .ref m10, .int m11, .int m12, .int m13, .int m14, .int m15, .int m16, .long m17, .int m18, .int m19, .int m20, .ref m21, .ref m22, .int m23, .int m24, .int m25, .int m26, .ref m27, .int m28, .ref m29, .int m30, .int m31, .ref m32, .int m33, .ref m34, .ref m35, .int m36, .int m37, .ref m38, .int m39, .int m40, .int m41, .ref m42, .int m43, .ref m44, .int m45, .int m46, .int m47, .int m48, .int m49, .ref m50, .ref m51, .ref m52, .ref m53])), (m1, .inl (m1t, 940, .inl f_8)), (m6, .inl (m6t, 283, .inl m6f)), (m7, .inl (m7t, 67, .inl m7f)), (m8, .inl (m8t, 135, .inl m8f)), (m9, .inl (m9t, 36, .inr (.inl m9f))), (m10, .inl (m10t, 21, .inr (.inl m10f))), (m21, .inl (m21t, 280, .inl m21f)), (m22, .inl (m22t, 35, .inl m22f)), (m27, .inl (m27t, 4, .inl m27f)), (m29, .inl (m29t, 5, .inl m29f)), (m32, .inl (m32t, 7, .inl m32f)), (m34, .inl (m34t, 25, .inl m34f)), (m35, .inl (m35t, 25, .inl m35f)), (m38, .inl (m38t, 48, .inl m38f)), (m42, .inl (m42t, 4, .inl m42f)), (m44, .inl (m44t, 45, .inl m44f)), (m50, .inl (m50t, 45, .inl m50f)), (m51, .inl (m51t, 566, .inl m51f)), (m52, .inl (m52t, 36, .inr (.inl m52f))), (m53, .inl (m53t, 2, .inl m53f))] := hD
  refine lv_aload_n hx hb dX12_four_20 rfl (lv_at hl 1 rfl) ?_
  refine lv_dup hx hb dX12_four_21 rfl ?_
  refine va_get (D := D) (ci := 11) (v := .int y_4) (C := RX12) (T := TX12) (N := 54) hx hb hts hiX12 hown hK hP 0 rfl rfl 2 (by decide) (hts _ (List.mem_of_getElem? (i := 2) rfl)) (fun _ h9 => h9) rfl dX12_four_22 ?_
  refine lv_iconst (v := 1) hx hb dX12_four_25 (by decide) ?_
  refine lv_iadd hx hb dX12_four_26 ?_
  refine lv_topi (fun y_9 ey_9 => ?_)
  have h_10 : z_in 2 934 y_9 := by rw [ey_9]; exact z_add h_5 (z_lit (x := 1) (a := 1) (b := 1) rfl) rfl rfl
  have ty_9 : y_9.toInt = y_4.toInt + 1 := by rw [ey_9]; exact (z_addT h_5 (z_lit (x := 1) (a := 1) (b := 1) rfl) rfl).trans rfl
  refine va_put (D := D) (ci := 11) (v := .int y_9) (ty := tyX12 2) (C := RX12) (T := TX12) (N := 54) hx hb hts hiX12 tyX12 tyX12_ok nmX12 hown hK hP hD hS 0 rfl rfl 2 (by decide) (hts _ (List.mem_of_getElem? (i := 2) rfl)) (fun _ h9 => h9) rfl (tyX12_ok 2 (by decide)) rfl rfl (Nat.le_of_ble_eq_true rfl) dX12_four_27 (fun H locs hP hD hS => ?_)
  have hP : va_P D vwCl [(mo, .inr (11, [.int m0, .ref m1, .int y_9, .int m3, .int m4, .int m5, .ref m6, .ref m7, .ref m8, .ref m9, .ref m10, .int m11, .int m12, .int m13, .int m14, .int m15, .int m16, .long m17, .int m18, .int m19, .int m20, .ref m21, .ref m22, .int m23, .int m24, .int m25, .int m26, .ref m27, .int m28, .ref m29, .int m30, .int m31, .ref m32, .int m33, .ref m34, .ref m35, .int m36, .int m37, .ref m38, .int m39, .int m40, .int m41, .ref m42, .int m43, .ref m44, .int m45, .int m46, .int m47, .int m48, .int m49, .ref m50, .ref m51, .ref m52, .ref m53])), (m1, .inl (m1t, 940, .inl f_8)), (m6, .inl (m6t, 283, .inl m6f)), (m7, .inl (m7t, 67, .inl m7f)), (m8, .inl (m8t, 135, .inl m8f)), (m9, .inl (m9t, 36, .inr (.inl m9f))), (m10, .inl (m10t, 21, .inr (.inl m10f))), (m21, .inl (m21t, 280, .inl m21f)), (m22, .inl (m22t, 35, .inl m22f)), (m27, .inl (m27t, 4, .inl m27f)), (m29, .inl (m29t, 5, .inl m29f)), (m32, .inl (m32t, 7, .inl m32f)), (m34, .inl (m34t, 25, .inl m34f)), (m35, .inl (m35t, 25, .inl m35f)), (m38, .inl (m38t, 48, .inl m38f)), (m42, .inl (m42t, 4, .inl m42f)), (m44, .inl (m44t, 45, .inl m44f)), (m50, .inl (m50t, 45, .inl m50f)), (m51, .inl (m51t, 566, .inl m51f)), (m52, .inl (m52t, 36, .inr (.inl m52f))), (m53, .inl (m53t, 2, .inl m53f))] H := hP
  have hD : va_D A [(mo, .inr (11, [.int m0, .ref m1, .int y_9, .int m3, .int m4, .int m5, .ref m6, .ref m7, .ref m8, .ref m9, .ref m10, .int m11, .int m12, .int m13, .int m14, .int m15, .int m16, .long m17, .int m18, .int m19, .int m20, .ref m21, .ref m22, .int m23, .int m24, .int m25, .int m26, .ref m27, .int m28, .ref m29, .int m30, .int m31, .ref m32, .int m33, .ref m34, .ref m35, .int m36, .int m37, .ref m38, .int m39, .int m40, .int m41, .ref m42, .int m43, .ref m44, .int m45, .int m46, .int m47, .int m48, .int m49, .ref m50, .ref m51, .ref m52, .ref m53])), (m1, .inl (m1t, 940, .inl f_8)), (m6, .inl (m6t, 283, .inl m6f)), (m7, .inl (m7t, 67, .inl m7f)), (m8, .inl (m8t, 135, .inl m8f)), (m9, .inl (m9t, 36, .inr (.inl m9f))), (m10, .inl (m10t, 21, .inr (.inl m10f))), (m21, .inl (m21t, 280, .inl m21f)), (m22, .inl (m22t, 35, .inl m22f)), (m27, .inl (m27t, 4, .inl m27f)), (m29, .inl (m29t, 5, .inl m29f)), (m32, .inl (m32t, 7, .inl m32f)), (m34, .inl (m34t, 25, .inl m34f)), (m35, .inl (m35t, 25, .inl m35f)), (m38, .inl (m38t, 48, .inl m38f)), (m42, .inl (m42t, 4, .inl m42f)), (m44, .inl (m44t, 45, .inl m44f)), (m50, .inl (m50t, 45, .inl m50f)), (m51, .inl (m51t, 566, .inl m51f)), (m52, .inl (m52t, 36, .inr (.inl m52f))), (m53, .inl (m53t, 2, .inl m53f))] := hD
  refine lv_iinc (v := 8) (lv' := [(2, .int 8), (0, .ref mo), (1, .int i0)]) hx hb dX12_four_30 hl (k := 0) rfl (by decide) (by decide) rfl (fun ls hl => ?_)
  refine lv_goto (tgt := 3) hx hb dX12_four_33 (by decide) ?_
  refine lv_iload_n hx hb dX12_four_3 rfl (lv_at hl 0 rfl) ?_
  refine lv_if_lt (tgt := 36) hx hb dX12_four_4 (by decide) (fun h9 => absurd h9 (by decide)) (fun _ => ?_)
  refine lv_aload_n hx hb dX12_four_7 rfl (lv_at hl 1 rfl) ?_
  refine va_get (D := D) (ci := 11) (v := .ref m1) (C := RX12) (T := TX12) (N := 54) hx hb hts hiX12 hown hK hP 0 rfl rfl 1 (by decide) (hts _ (List.mem_of_getElem? (i := 1) rfl)) (fun _ h9 => h9) rfl dX12_four_8 ?_
  refine lv_aload_n hx hb dX12_four_11 rfl (lv_at hl 1 rfl) ?_
  refine va_get (D := D) (ci := 11) (v := .int y_9) (C := RX12) (T := TX12) (N := 54) hx hb hts hiX12 hown hK hP 0 rfl rfl 2 (by decide) (hts _ (List.mem_of_getElem? (i := 2) rfl)) (fun _ h9 => h9) rfl dX12_four_12 ?_
  refine lv_iload_n hx hb dX12_four_15 rfl (lv_at hl 2 rfl) ?_
  refine lv_iload_n hx hb dX12_four_16 rfl (lv_at hl 0 rfl) ?_
  refine lv_ishr hx hb dX12_four_17 ?_
  refine lv_topi (fun y_11 ey_11 => ?_)
  refine lv_i2b hx hb dX12_four_18 rfl ?_
  refine lv_topi (fun y_12 ey_12 => ?_)
  refine va_bast hx hb hK hP hD hS 1 0 rfl rfl (z_vp h_10 rfl) dX12_four_19 (fun H locs hP hD hS => ?_)
  generalize ef_13 : (upd f_8 (y_9 : Int32).toNatClampNeg (vp_nar .byte y_12)) = f_13 at hP hD
  have hP : va_P D vwCl [(mo, .inr (11, [.int m0, .ref m1, .int y_9, .int m3, .int m4, .int m5, .ref m6, .ref m7, .ref m8, .ref m9, .ref m10, .int m11, .int m12, .int m13, .int m14, .int m15, .int m16, .long m17, .int m18, .int m19, .int m20, .ref m21, .ref m22, .int m23, .int m24, .int m25, .int m26, .ref m27, .int m28, .ref m29, .int m30, .int m31, .ref m32, .int m33, .ref m34, .ref m35, .int m36, .int m37, .ref m38, .int m39, .int m40, .int m41, .ref m42, .int m43, .ref m44, .int m45, .int m46, .int m47, .int m48, .int m49, .ref m50, .ref m51, .ref m52, .ref m53])), (m1, .inl (m1t, 940, .inl f_13)), (m6, .inl (m6t, 283, .inl m6f)), (m7, .inl (m7t, 67, .inl m7f)), (m8, .inl (m8t, 135, .inl m8f)), (m9, .inl (m9t, 36, .inr (.inl m9f))), (m10, .inl (m10t, 21, .inr (.inl m10f))), (m21, .inl (m21t, 280, .inl m21f)), (m22, .inl (m22t, 35, .inl m22f)), (m27, .inl (m27t, 4, .inl m27f)), (m29, .inl (m29t, 5, .inl m29f)), (m32, .inl (m32t, 7, .inl m32f)), (m34, .inl (m34t, 25, .inl m34f)), (m35, .inl (m35t, 25, .inl m35f)), (m38, .inl (m38t, 48, .inl m38f)), (m42, .inl (m42t, 4, .inl m42f)), (m44, .inl (m44t, 45, .inl m44f)), (m50, .inl (m50t, 45, .inl m50f)), (m51, .inl (m51t, 566, .inl m51f)), (m52, .inl (m52t, 36, .inr (.inl m52f))), (m53, .inl (m53t, 2, .inl m53f))] H := hP
  have hD : va_D A [(mo, .inr (11, [.int m0, .ref m1, .int y_9, .int m3, .int m4, .int m5, .ref m6, .ref m7, .ref m8, .ref m9, .ref m10, .int m11, .int m12, .int m13, .int m14, .int m15, .int m16, .long m17, .int m18, .int m19, .int m20, .ref m21, .ref m22, .int m23, .int m24, .int m25, .int m26, .ref m27, .int m28, .ref m29, .int m30, .int m31, .ref m32, .int m33, .ref m34, .ref m35, .int m36, .int m37, .ref m38, .int m39, .int m40, .int m41, .ref m42, .int m43, .ref m44, .int m45, .int m46, .int m47, .int m48, .int m49, .ref m50, .ref m51, .ref m52, .ref m53])), (m1, .inl (m1t, 940, .inl f_13)), (m6, .inl (m6t, 283, .inl m6f)), (m7, .inl (m7t, 67, .inl m7f)), (m8, .inl (m8t, 135, .inl m8f)), (m9, .inl (m9t, 36, .inr (.inl m9f))), (m10, .inl (m10t, 21, .inr (.inl m10f))), (m21, .inl (m21t, 280, .inl m21f)), (m22, .inl (m22t, 35, .inl m22f)), (m27, .inl (m27t, 4, .inl m27f)), (m29, .inl (m29t, 5, .inl m29f)), (m32, .inl (m32t, 7, .inl m32f)), (m34, .inl (m34t, 25, .inl m34f)), (m35, .inl (m35t, 25, .inl m35f)), (m38, .inl (m38t, 48, .inl m38f)), (m42, .inl (m42t, 4, .inl m42f)), (m44, .inl (m44t, 45, .inl m44f)), (m50, .inl (m50t, 45, .inl m50f)), (m51, .inl (m51t, 566, .inl m51f)), (m52, .inl (m52t, 36, .inr (.inl m52f))), (m53, .inl (m53t, 2, .inl m53f))] := hD
  refine lv_aload_n hx hb dX12_four_20 rfl (lv_at hl 1 rfl) ?_
  refine lv_dup hx hb dX12_four_21 rfl ?_
  refine va_get (D := D) (ci := 11) (v := .int y_9) (C := RX12) (T := TX12) (N := 54) hx hb hts hiX12 hown hK hP 0 rfl rfl 2 (by decide) (hts _ (List.mem_of_getElem? (i := 2) rfl)) (fun _ h9 => h9) rfl dX12_four_22 ?_
  refine lv_iconst (v := 1) hx hb dX12_four_25 (by decide) ?_
  refine lv_iadd hx hb dX12_four_26 ?_
  refine lv_topi (fun y_14 ey_14 => ?_)
  have h_15 : z_in 3 935 y_14 := by rw [ey_14]; exact z_add h_10 (z_lit (x := 1) (a := 1) (b := 1) rfl) rfl rfl
  have ty_14 : y_14.toInt = y_9.toInt + 1 := by rw [ey_14]; exact (z_addT h_10 (z_lit (x := 1) (a := 1) (b := 1) rfl) rfl).trans rfl
  refine va_put (D := D) (ci := 11) (v := .int y_14) (ty := tyX12 2) (C := RX12) (T := TX12) (N := 54) hx hb hts hiX12 tyX12 tyX12_ok nmX12 hown hK hP hD hS 0 rfl rfl 2 (by decide) (hts _ (List.mem_of_getElem? (i := 2) rfl)) (fun _ h9 => h9) rfl (tyX12_ok 2 (by decide)) rfl rfl (Nat.le_of_ble_eq_true rfl) dX12_four_27 (fun H locs hP hD hS => ?_)
  have hP : va_P D vwCl [(mo, .inr (11, [.int m0, .ref m1, .int y_14, .int m3, .int m4, .int m5, .ref m6, .ref m7, .ref m8, .ref m9, .ref m10, .int m11, .int m12, .int m13, .int m14, .int m15, .int m16, .long m17, .int m18, .int m19, .int m20, .ref m21, .ref m22, .int m23, .int m24, .int m25, .int m26, .ref m27, .int m28, .ref m29, .int m30, .int m31, .ref m32, .int m33, .ref m34, .ref m35, .int m36, .int m37, .ref m38, .int m39, .int m40, .int m41, .ref m42, .int m43, .ref m44, .int m45, .int m46, .int m47, .int m48, .int m49, .ref m50, .ref m51, .ref m52, .ref m53])), (m1, .inl (m1t, 940, .inl f_13)), (m6, .inl (m6t, 283, .inl m6f)), (m7, .inl (m7t, 67, .inl m7f)), (m8, .inl (m8t, 135, .inl m8f)), (m9, .inl (m9t, 36, .inr (.inl m9f))), (m10, .inl (m10t, 21, .inr (.inl m10f))), (m21, .inl (m21t, 280, .inl m21f)), (m22, .inl (m22t, 35, .inl m22f)), (m27, .inl (m27t, 4, .inl m27f)), (m29, .inl (m29t, 5, .inl m29f)), (m32, .inl (m32t, 7, .inl m32f)), (m34, .inl (m34t, 25, .inl m34f)), (m35, .inl (m35t, 25, .inl m35f)), (m38, .inl (m38t, 48, .inl m38f)), (m42, .inl (m42t, 4, .inl m42f)), (m44, .inl (m44t, 45, .inl m44f)), (m50, .inl (m50t, 45, .inl m50f)), (m51, .inl (m51t, 566, .inl m51f)), (m52, .inl (m52t, 36, .inr (.inl m52f))), (m53, .inl (m53t, 2, .inl m53f))] H := hP
  have hD : va_D A [(mo, .inr (11, [.int m0, .ref m1, .int y_14, .int m3, .int m4, .int m5, .ref m6, .ref m7, .ref m8, .ref m9, .ref m10, .int m11, .int m12, .int m13, .int m14, .int m15, .int m16, .long m17, .int m18, .int m19, .int m20, .ref m21, .ref m22, .int m23, .int m24, .int m25, .int m26, .ref m27, .int m28, .ref m29, .int m30, .int m31, .ref m32, .int m33, .ref m34, .ref m35, .int m36, .int m37, .ref m38, .int m39, .int m40, .int m41, .ref m42, .int m43, .ref m44, .int m45, .int m46, .int m47, .int m48, .int m49, .ref m50, .ref m51, .ref m52, .ref m53])), (m1, .inl (m1t, 940, .inl f_13)), (m6, .inl (m6t, 283, .inl m6f)), (m7, .inl (m7t, 67, .inl m7f)), (m8, .inl (m8t, 135, .inl m8f)), (m9, .inl (m9t, 36, .inr (.inl m9f))), (m10, .inl (m10t, 21, .inr (.inl m10f))), (m21, .inl (m21t, 280, .inl m21f)), (m22, .inl (m22t, 35, .inl m22f)), (m27, .inl (m27t, 4, .inl m27f)), (m29, .inl (m29t, 5, .inl m29f)), (m32, .inl (m32t, 7, .inl m32f)), (m34, .inl (m34t, 25, .inl m34f)), (m35, .inl (m35t, 25, .inl m35f)), (m38, .inl (m38t, 48, .inl m38f)), (m42, .inl (m42t, 4, .inl m42f)), (m44, .inl (m44t, 45, .inl m44f)), (m50, .inl (m50t, 45, .inl m50f)), (m51, .inl (m51t, 566, .inl m51f)), (m52, .inl (m52t, 36, .inr (.inl m52f))), (m53, .inl (m53t, 2, .inl m53f))] := hD
  refine lv_iinc (v := 0) (lv' := [(2, .int 0), (0, .ref mo), (1, .int i0)]) hx hb dX12_four_30 hl (k := 0) rfl (by decide) (by decide) rfl (fun ls hl => ?_)
  refine lv_goto (tgt := 3) hx hb dX12_four_33 (by decide) ?_
  refine lv_iload_n hx hb dX12_four_3 rfl (lv_at hl 0 rfl) ?_
  refine lv_if_lt (tgt := 36) hx hb dX12_four_4 (by decide) (fun h9 => absurd h9 (by decide)) (fun _ => ?_)
  refine lv_aload_n hx hb dX12_four_7 rfl (lv_at hl 1 rfl) ?_
  refine va_get (D := D) (ci := 11) (v := .ref m1) (C := RX12) (T := TX12) (N := 54) hx hb hts hiX12 hown hK hP 0 rfl rfl 1 (by decide) (hts _ (List.mem_of_getElem? (i := 1) rfl)) (fun _ h9 => h9) rfl dX12_four_8 ?_
  refine lv_aload_n hx hb dX12_four_11 rfl (lv_at hl 1 rfl) ?_
  refine va_get (D := D) (ci := 11) (v := .int y_14) (C := RX12) (T := TX12) (N := 54) hx hb hts hiX12 hown hK hP 0 rfl rfl 2 (by decide) (hts _ (List.mem_of_getElem? (i := 2) rfl)) (fun _ h9 => h9) rfl dX12_four_12 ?_
  refine lv_iload_n hx hb dX12_four_15 rfl (lv_at hl 2 rfl) ?_
  refine lv_iload_n hx hb dX12_four_16 rfl (lv_at hl 0 rfl) ?_
  refine lv_ishr hx hb dX12_four_17 ?_
  refine lv_topi (fun y_16 ey_16 => ?_)
  refine lv_i2b hx hb dX12_four_18 rfl ?_
  refine lv_topi (fun y_17 ey_17 => ?_)
  refine va_bast hx hb hK hP hD hS 1 0 rfl rfl (z_vp h_15 rfl) dX12_four_19 (fun H locs hP hD hS => ?_)
  generalize ef_18 : (upd f_13 (y_14 : Int32).toNatClampNeg (vp_nar .byte y_17)) = f_18 at hP hD
  have hP : va_P D vwCl [(mo, .inr (11, [.int m0, .ref m1, .int y_14, .int m3, .int m4, .int m5, .ref m6, .ref m7, .ref m8, .ref m9, .ref m10, .int m11, .int m12, .int m13, .int m14, .int m15, .int m16, .long m17, .int m18, .int m19, .int m20, .ref m21, .ref m22, .int m23, .int m24, .int m25, .int m26, .ref m27, .int m28, .ref m29, .int m30, .int m31, .ref m32, .int m33, .ref m34, .ref m35, .int m36, .int m37, .ref m38, .int m39, .int m40, .int m41, .ref m42, .int m43, .ref m44, .int m45, .int m46, .int m47, .int m48, .int m49, .ref m50, .ref m51, .ref m52, .ref m53])), (m1, .inl (m1t, 940, .inl f_18)), (m6, .inl (m6t, 283, .inl m6f)), (m7, .inl (m7t, 67, .inl m7f)), (m8, .inl (m8t, 135, .inl m8f)), (m9, .inl (m9t, 36, .inr (.inl m9f))), (m10, .inl (m10t, 21, .inr (.inl m10f))), (m21, .inl (m21t, 280, .inl m21f)), (m22, .inl (m22t, 35, .inl m22f)), (m27, .inl (m27t, 4, .inl m27f)), (m29, .inl (m29t, 5, .inl m29f)), (m32, .inl (m32t, 7, .inl m32f)), (m34, .inl (m34t, 25, .inl m34f)), (m35, .inl (m35t, 25, .inl m35f)), (m38, .inl (m38t, 48, .inl m38f)), (m42, .inl (m42t, 4, .inl m42f)), (m44, .inl (m44t, 45, .inl m44f)), (m50, .inl (m50t, 45, .inl m50f)), (m51, .inl (m51t, 566, .inl m51f)), (m52, .inl (m52t, 36, .inr (.inl m52f))), (m53, .inl (m53t, 2, .inl m53f))] H := hP
  have hD : va_D A [(mo, .inr (11, [.int m0, .ref m1, .int y_14, .int m3, .int m4, .int m5, .ref m6, .ref m7, .ref m8, .ref m9, .ref m10, .int m11, .int m12, .int m13, .int m14, .int m15, .int m16, .long m17, .int m18, .int m19, .int m20, .ref m21, .ref m22, .int m23, .int m24, .int m25, .int m26, .ref m27, .int m28, .ref m29, .int m30, .int m31, .ref m32, .int m33, .ref m34, .ref m35, .int m36, .int m37, .ref m38, .int m39, .int m40, .int m41, .ref m42, .int m43, .ref m44, .int m45, .int m46, .int m47, .int m48, .int m49, .ref m50, .ref m51, .ref m52, .ref m53])), (m1, .inl (m1t, 940, .inl f_18)), (m6, .inl (m6t, 283, .inl m6f)), (m7, .inl (m7t, 67, .inl m7f)), (m8, .inl (m8t, 135, .inl m8f)), (m9, .inl (m9t, 36, .inr (.inl m9f))), (m10, .inl (m10t, 21, .inr (.inl m10f))), (m21, .inl (m21t, 280, .inl m21f)), (m22, .inl (m22t, 35, .inl m22f)), (m27, .inl (m27t, 4, .inl m27f)), (m29, .inl (m29t, 5, .inl m29f)), (m32, .inl (m32t, 7, .inl m32f)), (m34, .inl (m34t, 25, .inl m34f)), (m35, .inl (m35t, 25, .inl m35f)), (m38, .inl (m38t, 48, .inl m38f)), (m42, .inl (m42t, 4, .inl m42f)), (m44, .inl (m44t, 45, .inl m44f)), (m50, .inl (m50t, 45, .inl m50f)), (m51, .inl (m51t, 566, .inl m51f)), (m52, .inl (m52t, 36, .inr (.inl m52f))), (m53, .inl (m53t, 2, .inl m53f))] := hD
  refine lv_aload_n hx hb dX12_four_20 rfl (lv_at hl 1 rfl) ?_
  refine lv_dup hx hb dX12_four_21 rfl ?_
  refine va_get (D := D) (ci := 11) (v := .int y_14) (C := RX12) (T := TX12) (N := 54) hx hb hts hiX12 hown hK hP 0 rfl rfl 2 (by decide) (hts _ (List.mem_of_getElem? (i := 2) rfl)) (fun _ h9 => h9) rfl dX12_four_22 ?_
  refine lv_iconst (v := 1) hx hb dX12_four_25 (by decide) ?_
  refine lv_iadd hx hb dX12_four_26 ?_
  refine lv_topi (fun y_19 ey_19 => ?_)
  have h_20 : z_in 4 936 y_19 := by rw [ey_19]; exact z_add h_15 (z_lit (x := 1) (a := 1) (b := 1) rfl) rfl rfl
  have ty_19 : y_19.toInt = y_14.toInt + 1 := by rw [ey_19]; exact (z_addT h_15 (z_lit (x := 1) (a := 1) (b := 1) rfl) rfl).trans rfl
  refine va_put (D := D) (ci := 11) (v := .int y_19) (ty := tyX12 2) (C := RX12) (T := TX12) (N := 54) hx hb hts hiX12 tyX12 tyX12_ok nmX12 hown hK hP hD hS 0 rfl rfl 2 (by decide) (hts _ (List.mem_of_getElem? (i := 2) rfl)) (fun _ h9 => h9) rfl (tyX12_ok 2 (by decide)) rfl rfl (Nat.le_of_ble_eq_true rfl) dX12_four_27 (fun H locs hP hD hS => ?_)
  have hP : va_P D vwCl [(mo, .inr (11, [.int m0, .ref m1, .int y_19, .int m3, .int m4, .int m5, .ref m6, .ref m7, .ref m8, .ref m9, .ref m10, .int m11, .int m12, .int m13, .int m14, .int m15, .int m16, .long m17, .int m18, .int m19, .int m20, .ref m21, .ref m22, .int m23, .int m24, .int m25, .int m26, .ref m27, .int m28, .ref m29, .int m30, .int m31, .ref m32, .int m33, .ref m34, .ref m35, .int m36, .int m37, .ref m38, .int m39, .int m40, .int m41, .ref m42, .int m43, .ref m44, .int m45, .int m46, .int m47, .int m48, .int m49, .ref m50, .ref m51, .ref m52, .ref m53])), (m1, .inl (m1t, 940, .inl f_18)), (m6, .inl (m6t, 283, .inl m6f)), (m7, .inl (m7t, 67, .inl m7f)), (m8, .inl (m8t, 135, .inl m8f)), (m9, .inl (m9t, 36, .inr (.inl m9f))), (m10, .inl (m10t, 21, .inr (.inl m10f))), (m21, .inl (m21t, 280, .inl m21f)), (m22, .inl (m22t, 35, .inl m22f)), (m27, .inl (m27t, 4, .inl m27f)), (m29, .inl (m29t, 5, .inl m29f)), (m32, .inl (m32t, 7, .inl m32f)), (m34, .inl (m34t, 25, .inl m34f)), (m35, .inl (m35t, 25, .inl m35f)), (m38, .inl (m38t, 48, .inl m38f)), (m42, .inl (m42t, 4, .inl m42f)), (m44, .inl (m44t, 45, .inl m44f)), (m50, .inl (m50t, 45, .inl m50f)), (m51, .inl (m51t, 566, .inl m51f)), (m52, .inl (m52t, 36, .inr (.inl m52f))), (m53, .inl (m53t, 2, .inl m53f))] H := hP
  have hD : va_D A [(mo, .inr (11, [.int m0, .ref m1, .int y_19, .int m3, .int m4, .int m5, .ref m6, .ref m7, .ref m8, .ref m9, .ref m10, .int m11, .int m12, .int m13, .int m14, .int m15, .int m16, .long m17, .int m18, .int m19, .int m20, .ref m21, .ref m22, .int m23, .int m24, .int m25, .int m26, .ref m27, .int m28, .ref m29, .int m30, .int m31, .ref m32, .int m33, .ref m34, .ref m35, .int m36, .int m37, .ref m38, .int m39, .int m40, .int m41, .ref m42, .int m43, .ref m44, .int m45, .int m46, .int m47, .int m48, .int m49, .ref m50, .ref m51, .ref m52, .ref m53])), (m1, .inl (m1t, 940, .inl f_18)), (m6, .inl (m6t, 283, .inl m6f)), (m7, .inl (m7t, 67, .inl m7f)), (m8, .inl (m8t, 135, .inl m8f)), (m9, .inl (m9t, 36, .inr (.inl m9f))), (m10, .inl (m10t, 21, .inr (.inl m10f))), (m21, .inl (m21t, 280, .inl m21f)), (m22, .inl (m22t, 35, .inl m22f)), (m27, .inl (m27t, 4, .inl m27f)), (m29, .inl (m29t, 5, .inl m29f)), (m32, .inl (m32t, 7, .inl m32f)), (m34, .inl (m34t, 25, .inl m34f)), (m35, .inl (m35t, 25, .inl m35f)), (m38, .inl (m38t, 48, .inl m38f)), (m42, .inl (m42t, 4, .inl m42f)), (m44, .inl (m44t, 45, .inl m44f)), (m50, .inl (m50t, 45, .inl m50f)), (m51, .inl (m51t, 566, .inl m51f)), (m52, .inl (m52t, 36, .inr (.inl m52f))), (m53, .inl (m53t, 2, .inl m53f))] := hD
  refine lv_iinc (v := (-8)) (lv' := [(2, .int (-8)), (0, .ref mo), (1, .int i0)]) hx hb dX12_four_30 hl (k := 0) rfl (by decide) (by decide) rfl (fun ls hl => ?_)
  refine lv_goto (tgt := 3) hx hb dX12_four_33 (by decide) ?_
  refine lv_iload_n hx hb dX12_four_3 rfl (lv_at hl 0 rfl) ?_
  refine lv_if_lt (tgt := 36) hx hb dX12_four_4 (by decide) (fun _ => ?_) (fun h9 => absurd (by decide) h9)
  exact hret ([(mo, .inr (11, [.int m0, .ref m1, .int y_19, .int m3, .int m4, .int m5, .ref m6, .ref m7, .ref m8, .ref m9, .ref m10, .int m11, .int m12, .int m13, .int m14, .int m15, .int m16, .long m17, .int m18, .int m19, .int m20, .ref m21, .ref m22, .int m23, .int m24, .int m25, .int m26, .ref m27, .int m28, .ref m29, .int m30, .int m31, .ref m32, .int m33, .ref m34, .ref m35, .int m36, .int m37, .ref m38, .int m39, .int m40, .int m41, .ref m42, .int m43, .ref m44, .int m45, .int m46, .int m47, .int m48, .int m49, .ref m50, .ref m51, .ref m52, .ref m53])), (m1, .inl (m1t, 940, .inl f_18)), (m6, .inl (m6t, 283, .inl m6f)), (m7, .inl (m7t, 67, .inl m7f)), (m8, .inl (m8t, 135, .inl m8f)), (m9, .inl (m9t, 36, .inr (.inl m9f))), (m10, .inl (m10t, 21, .inr (.inl m10f))), (m21, .inl (m21t, 280, .inl m21f)), (m22, .inl (m22t, 35, .inl m22f)), (m27, .inl (m27t, 4, .inl m27f)), (m29, .inl (m29t, 5, .inl m29f)), (m32, .inl (m32t, 7, .inl m32f)), (m34, .inl (m34t, 25, .inl m34f)), (m35, .inl (m35t, 25, .inl m35f)), (m38, .inl (m38t, 48, .inl m38f)), (m42, .inl (m42t, 4, .inl m42f)), (m44, .inl (m44t, 45, .inl m44f)), (m50, .inl (m50t, 45, .inl m50f)), (m51, .inl (m51t, 566, .inl m51f)), (m52, .inl (m52t, 36, .inr (.inl m52f))), (m53, .inl (m53t, 2, .inl m53f))], []) _ _ _ _ dX12_four_36 ⟨y_19, f_18, h_20, (show z_a4 m2 y_19 from by have q0 := ty_19; have q1 := ty_14; have q2 := ty_9; have q3 := ty_4; unfold z_a4; omega), (z_m4I ef_3 ef_8 ef_13 ef_18 ey_2 ey_7 ey_12 ey_17 ey_1 ey_6 ey_11 ey_16 ty_4 ty_9 ty_14), rfl⟩ hP (hK.sub [] rfl) hD hS

set_option maxHeartbeats 8000000 in
set_option maxRecDepth 100000 in
theorem m_four936 (l : Launch) (D : va_G) (ad : Nat → Nat) (mo : Nat) (m0 : Int32) (m2 : Int32) (m3 : Int32) (m4 : Int32) (m5 : Int32) (m11 : Int32) (m12 : Int32) (m13 : Int32) (m14 : Int32) (m15 : Int32) (m16 : Int32) (m17 : Int64) (m18 : Int32) (m19 : Int32) (m20 : Int32) (m23 : Int32) (m24 : Int32) (m25 : Int32) (m26 : Int32) (m28 : Int32) (m30 : Int32) (m31 : Int32) (m33 : Int32) (m36 : Int32) (m37 : Int32) (m39 : Int32) (m40 : Int32) (m41 : Int32) (m43 : Int32) (m45 : Int32) (m46 : Int32) (m47 : Int32) (m48 : Int32) (m49 : Int32) (m1 : Nat) (m1t : ClassId) (m1f : Nat → Int32) (m6 : Nat) (m6t : ClassId) (m6f : Nat → Int32) (m7 : Nat) (m7t : ClassId) (m7f : Nat → Int32) (m8 : Nat) (m8t : ClassId) (m8f : Nat → Int32) (m9 : Nat) (m9t : ClassId) (m9f : Nat → Int64) (m10 : Nat) (m10t : ClassId) (m10f : Nat → Int64) (m21 : Nat) (m21t : ClassId) (m21f : Nat → Int32) (m22 : Nat) (m22t : ClassId) (m22f : Nat → Int32) (m27 : Nat) (m27t : ClassId) (m27f : Nat → Int32) (m29 : Nat) (m29t : ClassId) (m29f : Nat → Int32) (m32 : Nat) (m32t : ClassId) (m32f : Nat → Int32) (m34 : Nat) (m34t : ClassId) (m34f : Nat → Int32) (m35 : Nat) (m35t : ClassId) (m35f : Nat → Int32) (m38 : Nat) (m38t : ClassId) (m38f : Nat → Int32) (m42 : Nat) (m42t : ClassId) (m42f : Nat → Int32) (m44 : Nat) (m44t : ClassId) (m44f : Nat → Int32) (m50 : Nat) (m50t : ClassId) (m50f : Nat → Int32) (m51 : Nat) (m51t : ClassId) (m51f : Nat → Int32) (m52 : Nat) (m52t : ClassId) (m52f : Nat → Int64) (m53 : Nat) (m53t : ClassId) (m53f : Nat → Int32) (i0 : Int32) (hm2 : z_in 0 936 m2) (hm3 : z_in 0 940 m3) (hm4 : z_in 0 940 m4) (hm5 : z_in 0 940 m5) (hm11 : z_in 0 4 m11) (hm20 : z_in 0 1 m20) (hm23 : z_in 0 8 m23) (hm26 : z_in 0 1 m26) (hm28 : z_in (-1) 4 m28) (hm31 : z_in 0 1 m31) (hm33 : z_in (-1) 7 m33) (hm37 : z_in 0 1 m37) (hm39 : z_in 0 48 m39) (hm41 : z_in 0 40 m41) (hm43 : z_in 0 1 m43) (hm45 : z_in 0 45 m45) (hm46 : z_in 0 20 m46) (hm47 : z_in 0 45 m47) (hm49 : z_in 0 1 m49) (hm6f : z_sr m6f) (hm7f : z_hr m7f) (hm21f : z_ar rgU m21f) (hm22f : z_ar rgB m22f) (hm27f : z_al 0 4 m27f) (hm32f : z_al 0 4 m32f) (hm34f : z_al 0 1 m34f) (hm35f : z_al 0 1 m35f) (hm50f : z_al 0 1 m50f) (hm51f : z_ir m51f) (hm53f : z_al 0 1 m53f) : z_Mv l yX12_four wsX12_four { frames := 0, cells := 0, slots := 0, locals := 0 } D ad [.ref mo, .int i0] [(mo, .inr (11, [.int m0, .ref m1, .int m2, .int m3, .int m4, .int m5, .ref m6, .ref m7, .ref m8, .ref m9, .ref m10, .int m11, .int m12, .int m13, .int m14, .int m15, .int m16, .long m17, .int m18, .int m19, .int m20, .ref m21, .ref m22, .int m23, .int m24, .int m25, .int m26, .ref m27, .int m28, .ref m29, .int m30, .int m31, .ref m32, .int m33, .ref m34, .ref m35, .int m36, .int m37, .ref m38, .int m39, .int m40, .int m41, .ref m42, .int m43, .ref m44, .int m45, .int m46, .int m47, .int m48, .int m49, .ref m50, .ref m51, .ref m52, .ref m53])), (m1, .inl (m1t, 940, .inl m1f)), (m6, .inl (m6t, 283, .inl m6f)), (m7, .inl (m7t, 67, .inl m7f)), (m8, .inl (m8t, 135, .inl m8f)), (m9, .inl (m9t, 36, .inr (.inl m9f))), (m10, .inl (m10t, 21, .inr (.inl m10f))), (m21, .inl (m21t, 280, .inl m21f)), (m22, .inl (m22t, 35, .inl m22f)), (m27, .inl (m27t, 4, .inl m27f)), (m29, .inl (m29t, 5, .inl m29f)), (m32, .inl (m32t, 7, .inl m32f)), (m34, .inl (m34t, 25, .inl m34f)), (m35, .inl (m35t, 25, .inl m35f)), (m38, .inl (m38t, 48, .inl m38f)), (m42, .inl (m42t, 4, .inl m42f)), (m44, .inl (m44t, 45, .inl m44f)), (m50, .inl (m50t, 45, .inl m50f)), (m51, .inl (m51t, 566, .inl m51f)), (m52, .inl (m52t, 36, .inr (.inl m52f))), (m53, .inl (m53t, 2, .inl m53f))] [(m1t, .byte), (m6t, .int), (m7t, .int), (m8t, .int), (m9t, .long), (m10t, .long), (m21t, .int), (m22t, .int), (m27t, .int), (m29t, .int), (m32t, .int), (m34t, .boolean), (m35t, .boolean), (m38t, .byte), (m42t, .int), (m44t, .int), (m50t, .boolean), (m51t, .int), (m52t, .long), (m53t, .boolean)] 0 0 (fun u9 => ∃ (x0_2 : Int32) (x1_f : Nat → Int32), z_in 4 940 x0_2 ∧ z_a4 m2 x0_2 ∧ z_bn4 x1_f m1f m2 i0 ∧ u9 = ([(mo, .inr (11, [.int m0, .ref m1, .int x0_2, .int m3, .int m4, .int m5, .ref m6, .ref m7, .ref m8, .ref m9, .ref m10, .int m11, .int m12, .int m13, .int m14, .int m15, .int m16, .long m17, .int m18, .int m19, .int m20, .ref m21, .ref m22, .int m23, .int m24, .int m25, .int m26, .ref m27, .int m28, .ref m29, .int m30, .int m31, .ref m32, .int m33, .ref m34, .ref m35, .int m36, .int m37, .ref m38, .int m39, .int m40, .int m41, .ref m42, .int m43, .ref m44, .int m45, .int m46, .int m47, .int m48, .int m49, .ref m50, .ref m51, .ref m52, .ref m53])), (m1, .inl (m1t, 940, .inl x1_f)), (m6, .inl (m6t, 283, .inl m6f)), (m7, .inl (m7t, 67, .inl m7f)), (m8, .inl (m8t, 135, .inl m8f)), (m9, .inl (m9t, 36, .inr (.inl m9f))), (m10, .inl (m10t, 21, .inr (.inl m10f))), (m21, .inl (m21t, 280, .inl m21f)), (m22, .inl (m22t, 35, .inl m22f)), (m27, .inl (m27t, 4, .inl m27f)), (m29, .inl (m29t, 5, .inl m29f)), (m32, .inl (m32t, 7, .inl m32f)), (m34, .inl (m34t, 25, .inl m34f)), (m35, .inl (m35t, 25, .inl m35f)), (m38, .inl (m38t, 48, .inl m38f)), (m42, .inl (m42t, 4, .inl m42f)), (m44, .inl (m44t, 45, .inl m44f)), (m50, .inl (m50t, 45, .inl m50f)), (m51, .inl (m51t, 566, .inl m51f)), (m52, .inl (m52t, 36, .inr (.inl m52f))), (m53, .inl (m53t, 2, .inl m53f))], [])) := by
  refine z_ofV (cc := cX12_four) (maxL := 3) (by decide) rfl (Nat.le_of_ble_eq_true rfl) ?_
  intro p e s m below meth c Q A ls hx hb hml hown hts hin hK hP hD hA hE hO hS hl hret
  have hown : s.vm.findClass RX12 = some m.cls := hown
  have hiX12 : ∀ w ∈ wsX120, w ∈ wsX12_four := fun _ h9 => List.mem_cons_of_mem _ (List.mem_append_right _ h9)
  have hl : lv_has ls 3 [(0, .ref mo), (1, .int i0)] := hl
  refine lv_bipush (v := 24) hx hb dX12_four_0 (by decide) ?_
  refine lv_istore_n (lv' := [(2, .int 24), (0, .ref mo), (1, .int i0)]) hx hb dX12_four_2 rfl hl (by decide) rfl (fun ls hl => ?_)
  refine lv_iload_n hx hb dX12_four_3 rfl (lv_at hl 0 rfl) ?_
  refine lv_if_lt (tgt := 36) hx hb dX12_four_4 (by decide) (fun h9 => absurd h9 (by decide)) (fun _ => ?_)
  refine lv_aload_n hx hb dX12_four_7 rfl (lv_at hl 1 rfl) ?_
  refine va_get (D := D) (ci := 11) (v := .ref m1) (C := RX12) (T := TX12) (N := 54) hx hb hts hiX12 hown hK hP 0 rfl rfl 1 (by decide) (hts _ (List.mem_of_getElem? (i := 1) rfl)) (fun _ h9 => h9) rfl dX12_four_8 ?_
  refine lv_aload_n hx hb dX12_four_11 rfl (lv_at hl 1 rfl) ?_
  refine va_get (D := D) (ci := 11) (v := .int m2) (C := RX12) (T := TX12) (N := 54) hx hb hts hiX12 hown hK hP 0 rfl rfl 2 (by decide) (hts _ (List.mem_of_getElem? (i := 2) rfl)) (fun _ h9 => h9) rfl dX12_four_12 ?_
  refine lv_iload_n hx hb dX12_four_15 rfl (lv_at hl 2 rfl) ?_
  refine lv_iload_n hx hb dX12_four_16 rfl (lv_at hl 0 rfl) ?_
  refine lv_ishr hx hb dX12_four_17 ?_
  refine lv_topi (fun y_1 ey_1 => ?_)
  refine lv_i2b hx hb dX12_four_18 rfl ?_
  refine lv_topi (fun y_2 ey_2 => ?_)
  refine va_bast hx hb hK hP hD hS 1 0 rfl rfl (z_vp hm2 rfl) dX12_four_19 (fun H locs hP hD hS => ?_)
  generalize ef_3 : (upd m1f (m2 : Int32).toNatClampNeg (vp_nar .byte y_2)) = f_3 at hP hD
  have hP : va_P D vwCl [(mo, .inr (11, [.int m0, .ref m1, .int m2, .int m3, .int m4, .int m5, .ref m6, .ref m7, .ref m8, .ref m9, .ref m10, .int m11, .int m12, .int m13, .int m14, .int m15, .int m16, .long m17, .int m18, .int m19, .int m20, .ref m21, .ref m22, .int m23, .int m24, .int m25, .int m26, .ref m27, .int m28, .ref m29, .int m30, .int m31, .ref m32, .int m33, .ref m34, .ref m35, .int m36, .int m37, .ref m38, .int m39, .int m40, .int m41, .ref m42, .int m43, .ref m44, .int m45, .int m46, .int m47, .int m48, .int m49, .ref m50, .ref m51, .ref m52, .ref m53])), (m1, .inl (m1t, 940, .inl f_3)), (m6, .inl (m6t, 283, .inl m6f)), (m7, .inl (m7t, 67, .inl m7f)), (m8, .inl (m8t, 135, .inl m8f)), (m9, .inl (m9t, 36, .inr (.inl m9f))), (m10, .inl (m10t, 21, .inr (.inl m10f))), (m21, .inl (m21t, 280, .inl m21f)), (m22, .inl (m22t, 35, .inl m22f)), (m27, .inl (m27t, 4, .inl m27f)), (m29, .inl (m29t, 5, .inl m29f)), (m32, .inl (m32t, 7, .inl m32f)), (m34, .inl (m34t, 25, .inl m34f)), (m35, .inl (m35t, 25, .inl m35f)), (m38, .inl (m38t, 48, .inl m38f)), (m42, .inl (m42t, 4, .inl m42f)), (m44, .inl (m44t, 45, .inl m44f)), (m50, .inl (m50t, 45, .inl m50f)), (m51, .inl (m51t, 566, .inl m51f)), (m52, .inl (m52t, 36, .inr (.inl m52f))), (m53, .inl (m53t, 2, .inl m53f))] H := hP
  have hD : va_D A [(mo, .inr (11, [.int m0, .ref m1, .int m2, .int m3, .int m4, .int m5, .ref m6, .ref m7, .ref m8, .ref m9, .ref m10, .int m11, .int m12, .int m13, .int m14, .int m15, .int m16, .long m17, .int m18, .int m19, .int m20, .ref m21, .ref m22, .int m23, .int m24, .int m25, .int m26, .ref m27, .int m28, .ref m29, .int m30, .int m31, .ref m32, .int m33, .ref m34, .ref m35, .int m36, .int m37, .ref m38, .int m39, .int m40, .int m41, .ref m42, .int m43, .ref m44, .int m45, .int m46, .int m47, .int m48, .int m49, .ref m50, .ref m51, .ref m52, .ref m53])), (m1, .inl (m1t, 940, .inl f_3)), (m6, .inl (m6t, 283, .inl m6f)), (m7, .inl (m7t, 67, .inl m7f)), (m8, .inl (m8t, 135, .inl m8f)), (m9, .inl (m9t, 36, .inr (.inl m9f))), (m10, .inl (m10t, 21, .inr (.inl m10f))), (m21, .inl (m21t, 280, .inl m21f)), (m22, .inl (m22t, 35, .inl m22f)), (m27, .inl (m27t, 4, .inl m27f)), (m29, .inl (m29t, 5, .inl m29f)), (m32, .inl (m32t, 7, .inl m32f)), (m34, .inl (m34t, 25, .inl m34f)), (m35, .inl (m35t, 25, .inl m35f)), (m38, .inl (m38t, 48, .inl m38f)), (m42, .inl (m42t, 4, .inl m42f)), (m44, .inl (m44t, 45, .inl m44f)), (m50, .inl (m50t, 45, .inl m50f)), (m51, .inl (m51t, 566, .inl m51f)), (m52, .inl (m52t, 36, .inr (.inl m52f))), (m53, .inl (m53t, 2, .inl m53f))] := hD
  refine lv_aload_n hx hb dX12_four_20 rfl (lv_at hl 1 rfl) ?_
  refine lv_dup hx hb dX12_four_21 rfl ?_
  refine va_get (D := D) (ci := 11) (v := .int m2) (C := RX12) (T := TX12) (N := 54) hx hb hts hiX12 hown hK hP 0 rfl rfl 2 (by decide) (hts _ (List.mem_of_getElem? (i := 2) rfl)) (fun _ h9 => h9) rfl dX12_four_22 ?_
  refine lv_iconst (v := 1) hx hb dX12_four_25 (by decide) ?_
  refine lv_iadd hx hb dX12_four_26 ?_
  refine lv_topi (fun y_4 ey_4 => ?_)
  have h_5 : z_in 1 937 y_4 := by rw [ey_4]; exact z_add hm2 (z_lit (x := 1) (a := 1) (b := 1) rfl) rfl rfl
  have ty_4 : y_4.toInt = m2.toInt + 1 := by rw [ey_4]; exact (z_addT hm2 (z_lit (x := 1) (a := 1) (b := 1) rfl) rfl).trans rfl
  refine va_put (D := D) (ci := 11) (v := .int y_4) (ty := tyX12 2) (C := RX12) (T := TX12) (N := 54) hx hb hts hiX12 tyX12 tyX12_ok nmX12 hown hK hP hD hS 0 rfl rfl 2 (by decide) (hts _ (List.mem_of_getElem? (i := 2) rfl)) (fun _ h9 => h9) rfl (tyX12_ok 2 (by decide)) rfl rfl (Nat.le_of_ble_eq_true rfl) dX12_four_27 (fun H locs hP hD hS => ?_)
  have hP : va_P D vwCl [(mo, .inr (11, [.int m0, .ref m1, .int y_4, .int m3, .int m4, .int m5, .ref m6, .ref m7, .ref m8, .ref m9, .ref m10, .int m11, .int m12, .int m13, .int m14, .int m15, .int m16, .long m17, .int m18, .int m19, .int m20, .ref m21, .ref m22, .int m23, .int m24, .int m25, .int m26, .ref m27, .int m28, .ref m29, .int m30, .int m31, .ref m32, .int m33, .ref m34, .ref m35, .int m36, .int m37, .ref m38, .int m39, .int m40, .int m41, .ref m42, .int m43, .ref m44, .int m45, .int m46, .int m47, .int m48, .int m49, .ref m50, .ref m51, .ref m52, .ref m53])), (m1, .inl (m1t, 940, .inl f_3)), (m6, .inl (m6t, 283, .inl m6f)), (m7, .inl (m7t, 67, .inl m7f)), (m8, .inl (m8t, 135, .inl m8f)), (m9, .inl (m9t, 36, .inr (.inl m9f))), (m10, .inl (m10t, 21, .inr (.inl m10f))), (m21, .inl (m21t, 280, .inl m21f)), (m22, .inl (m22t, 35, .inl m22f)), (m27, .inl (m27t, 4, .inl m27f)), (m29, .inl (m29t, 5, .inl m29f)), (m32, .inl (m32t, 7, .inl m32f)), (m34, .inl (m34t, 25, .inl m34f)), (m35, .inl (m35t, 25, .inl m35f)), (m38, .inl (m38t, 48, .inl m38f)), (m42, .inl (m42t, 4, .inl m42f)), (m44, .inl (m44t, 45, .inl m44f)), (m50, .inl (m50t, 45, .inl m50f)), (m51, .inl (m51t, 566, .inl m51f)), (m52, .inl (m52t, 36, .inr (.inl m52f))), (m53, .inl (m53t, 2, .inl m53f))] H := hP
  have hD : va_D A [(mo, .inr (11, [.int m0, .ref m1, .int y_4, .int m3, .int m4, .int m5, .ref m6, .ref m7, .ref m8, .ref m9, .ref m10, .int m11, .int m12, .int m13, .int m14, .int m15, .int m16, .long m17, .int m18, .int m19, .int m20, .ref m21, .ref m22, .int m23, .int m24, .int m25, .int m26, .ref m27, .int m28, .ref m29, .int m30, .int m31, .ref m32, .int m33, .ref m34, .ref m35, .int m36, .int m37, .ref m38, .int m39, .int m40, .int m41, .ref m42, .int m43, .ref m44, .int m45, .int m46, .int m47, .int m48, .int m49, .ref m50, .ref m51, .ref m52, .ref m53])), (m1, .inl (m1t, 940, .inl f_3)), (m6, .inl (m6t, 283, .inl m6f)), (m7, .inl (m7t, 67, .inl m7f)), (m8, .inl (m8t, 135, .inl m8f)), (m9, .inl (m9t, 36, .inr (.inl m9f))), (m10, .inl (m10t, 21, .inr (.inl m10f))), (m21, .inl (m21t, 280, .inl m21f)), (m22, .inl (m22t, 35, .inl m22f)), (m27, .inl (m27t, 4, .inl m27f)), (m29, .inl (m29t, 5, .inl m29f)), (m32, .inl (m32t, 7, .inl m32f)), (m34, .inl (m34t, 25, .inl m34f)), (m35, .inl (m35t, 25, .inl m35f)), (m38, .inl (m38t, 48, .inl m38f)), (m42, .inl (m42t, 4, .inl m42f)), (m44, .inl (m44t, 45, .inl m44f)), (m50, .inl (m50t, 45, .inl m50f)), (m51, .inl (m51t, 566, .inl m51f)), (m52, .inl (m52t, 36, .inr (.inl m52f))), (m53, .inl (m53t, 2, .inl m53f))] := hD
  refine lv_iinc (v := 16) (lv' := [(2, .int 16), (0, .ref mo), (1, .int i0)]) hx hb dX12_four_30 hl (k := 0) rfl (by decide) (by decide) rfl (fun ls hl => ?_)
  refine lv_goto (tgt := 3) hx hb dX12_four_33 (by decide) ?_
  refine lv_iload_n hx hb dX12_four_3 rfl (lv_at hl 0 rfl) ?_
  refine lv_if_lt (tgt := 36) hx hb dX12_four_4 (by decide) (fun h9 => absurd h9 (by decide)) (fun _ => ?_)
  refine lv_aload_n hx hb dX12_four_7 rfl (lv_at hl 1 rfl) ?_
  refine va_get (D := D) (ci := 11) (v := .ref m1) (C := RX12) (T := TX12) (N := 54) hx hb hts hiX12 hown hK hP 0 rfl rfl 1 (by decide) (hts _ (List.mem_of_getElem? (i := 1) rfl)) (fun _ h9 => h9) rfl dX12_four_8 ?_
  refine lv_aload_n hx hb dX12_four_11 rfl (lv_at hl 1 rfl) ?_
  refine va_get (D := D) (ci := 11) (v := .int y_4) (C := RX12) (T := TX12) (N := 54) hx hb hts hiX12 hown hK hP 0 rfl rfl 2 (by decide) (hts _ (List.mem_of_getElem? (i := 2) rfl)) (fun _ h9 => h9) rfl dX12_four_12 ?_
  refine lv_iload_n hx hb dX12_four_15 rfl (lv_at hl 2 rfl) ?_
  refine lv_iload_n hx hb dX12_four_16 rfl (lv_at hl 0 rfl) ?_
  refine lv_ishr hx hb dX12_four_17 ?_
  refine lv_topi (fun y_6 ey_6 => ?_)
  refine lv_i2b hx hb dX12_four_18 rfl ?_
  refine lv_topi (fun y_7 ey_7 => ?_)
  refine va_bast hx hb hK hP hD hS 1 0 rfl rfl (z_vp h_5 rfl) dX12_four_19 (fun H locs hP hD hS => ?_)
  generalize ef_8 : (upd f_3 (y_4 : Int32).toNatClampNeg (vp_nar .byte y_7)) = f_8 at hP hD
  have hP : va_P D vwCl [(mo, .inr (11, [.int m0, .ref m1, .int y_4, .int m3, .int m4, .int m5, .ref m6, .ref m7, .ref m8, .ref m9, .ref m10, .int m11, .int m12, .int m13, .int m14, .int m15, .int m16, .long m17, .int m18, .int m19, .int m20, .ref m21, .ref m22, .int m23, .int m24, .int m25, .int m26, .ref m27, .int m28, .ref m29, .int m30, .int m31, .ref m32, .int m33, .ref m34, .ref m35, .int m36, .int m37, .ref m38, .int m39, .int m40, .int m41, .ref m42, .int m43, .ref m44, .int m45, .int m46, .int m47, .int m48, .int m49, .ref m50, .ref m51, .ref m52, .ref m53])), (m1, .inl (m1t, 940, .inl f_8)), (m6, .inl (m6t, 283, .inl m6f)), (m7, .inl (m7t, 67, .inl m7f)), (m8, .inl (m8t, 135, .inl m8f)), (m9, .inl (m9t, 36, .inr (.inl m9f))), (m10, .inl (m10t, 21, .inr (.inl m10f))), (m21, .inl (m21t, 280, .inl m21f)), (m22, .inl (m22t, 35, .inl m22f)), (m27, .inl (m27t, 4, .inl m27f)), (m29, .inl (m29t, 5, .inl m29f)), (m32, .inl (m32t, 7, .inl m32f)), (m34, .inl (m34t, 25, .inl m34f)), (m35, .inl (m35t, 25, .inl m35f)), (m38, .inl (m38t, 48, .inl m38f)), (m42, .inl (m42t, 4, .inl m42f)), (m44, .inl (m44t, 45, .inl m44f)), (m50, .inl (m50t, 45, .inl m50f)), (m51, .inl (m51t, 566, .inl m51f)), (m52, .inl (m52t, 36, .inr (.inl m52f))), (m53, .inl (m53t, 2, .inl m53f))] H := hP
  have hD : va_D A [(mo, .inr (11, [.int m0, .ref m1, .int y_4, .int m3, .int m4, .int m5, .ref m6, .ref m7, .ref m8, .ref m9, .ref m10, .int m11, .int m12, .int m13, .int m14, .int m15, .int m16, .long m17, .int m18, .int m19, .int m20, .ref m21, .ref m22, .int m23, .int m24, .int m25, .int m26, .ref m27, .int m28, .ref m29, .int m30, .int m31, .ref m32, .int m33, .ref m34, .ref m35, .int m36, .int m37, .ref m38, .int m39, .int m40, .int m41, .ref m42, .int m43, .ref m44, .int m45, .int m46, .int m47, .int m48, .int m49, .ref m50, .ref m51, .ref m52, .ref m53])), (m1, .inl (m1t, 940, .inl f_8)), (m6, .inl (m6t, 283, .inl m6f)), (m7, .inl (m7t, 67, .inl m7f)), (m8, .inl (m8t, 135, .inl m8f)), (m9, .inl (m9t, 36, .inr (.inl m9f))), (m10, .inl (m10t, 21, .inr (.inl m10f))), (m21, .inl (m21t, 280, .inl m21f)), (m22, .inl (m22t, 35, .inl m22f)), (m27, .inl (m27t, 4, .inl m27f)), (m29, .inl (m29t, 5, .inl m29f)), (m32, .inl (m32t, 7, .inl m32f)), (m34, .inl (m34t, 25, .inl m34f)), (m35, .inl (m35t, 25, .inl m35f)), (m38, .inl (m38t, 48, .inl m38f)), (m42, .inl (m42t, 4, .inl m42f)), (m44, .inl (m44t, 45, .inl m44f)), (m50, .inl (m50t, 45, .inl m50f)), (m51, .inl (m51t, 566, .inl m51f)), (m52, .inl (m52t, 36, .inr (.inl m52f))), (m53, .inl (m53t, 2, .inl m53f))] := hD
  refine lv_aload_n hx hb dX12_four_20 rfl (lv_at hl 1 rfl) ?_
  refine lv_dup hx hb dX12_four_21 rfl ?_
  refine va_get (D := D) (ci := 11) (v := .int y_4) (C := RX12) (T := TX12) (N := 54) hx hb hts hiX12 hown hK hP 0 rfl rfl 2 (by decide) (hts _ (List.mem_of_getElem? (i := 2) rfl)) (fun _ h9 => h9) rfl dX12_four_22 ?_
  refine lv_iconst (v := 1) hx hb dX12_four_25 (by decide) ?_
  refine lv_iadd hx hb dX12_four_26 ?_
  refine lv_topi (fun y_9 ey_9 => ?_)
  have h_10 : z_in 2 938 y_9 := by rw [ey_9]; exact z_add h_5 (z_lit (x := 1) (a := 1) (b := 1) rfl) rfl rfl
  have ty_9 : y_9.toInt = y_4.toInt + 1 := by rw [ey_9]; exact (z_addT h_5 (z_lit (x := 1) (a := 1) (b := 1) rfl) rfl).trans rfl
  refine va_put (D := D) (ci := 11) (v := .int y_9) (ty := tyX12 2) (C := RX12) (T := TX12) (N := 54) hx hb hts hiX12 tyX12 tyX12_ok nmX12 hown hK hP hD hS 0 rfl rfl 2 (by decide) (hts _ (List.mem_of_getElem? (i := 2) rfl)) (fun _ h9 => h9) rfl (tyX12_ok 2 (by decide)) rfl rfl (Nat.le_of_ble_eq_true rfl) dX12_four_27 (fun H locs hP hD hS => ?_)
  have hP : va_P D vwCl [(mo, .inr (11, [.int m0, .ref m1, .int y_9, .int m3, .int m4, .int m5, .ref m6, .ref m7, .ref m8, .ref m9, .ref m10, .int m11, .int m12, .int m13, .int m14, .int m15, .int m16, .long m17, .int m18, .int m19, .int m20, .ref m21, .ref m22, .int m23, .int m24, .int m25, .int m26, .ref m27, .int m28, .ref m29, .int m30, .int m31, .ref m32, .int m33, .ref m34, .ref m35, .int m36, .int m37, .ref m38, .int m39, .int m40, .int m41, .ref m42, .int m43, .ref m44, .int m45, .int m46, .int m47, .int m48, .int m49, .ref m50, .ref m51, .ref m52, .ref m53])), (m1, .inl (m1t, 940, .inl f_8)), (m6, .inl (m6t, 283, .inl m6f)), (m7, .inl (m7t, 67, .inl m7f)), (m8, .inl (m8t, 135, .inl m8f)), (m9, .inl (m9t, 36, .inr (.inl m9f))), (m10, .inl (m10t, 21, .inr (.inl m10f))), (m21, .inl (m21t, 280, .inl m21f)), (m22, .inl (m22t, 35, .inl m22f)), (m27, .inl (m27t, 4, .inl m27f)), (m29, .inl (m29t, 5, .inl m29f)), (m32, .inl (m32t, 7, .inl m32f)), (m34, .inl (m34t, 25, .inl m34f)), (m35, .inl (m35t, 25, .inl m35f)), (m38, .inl (m38t, 48, .inl m38f)), (m42, .inl (m42t, 4, .inl m42f)), (m44, .inl (m44t, 45, .inl m44f)), (m50, .inl (m50t, 45, .inl m50f)), (m51, .inl (m51t, 566, .inl m51f)), (m52, .inl (m52t, 36, .inr (.inl m52f))), (m53, .inl (m53t, 2, .inl m53f))] H := hP
  have hD : va_D A [(mo, .inr (11, [.int m0, .ref m1, .int y_9, .int m3, .int m4, .int m5, .ref m6, .ref m7, .ref m8, .ref m9, .ref m10, .int m11, .int m12, .int m13, .int m14, .int m15, .int m16, .long m17, .int m18, .int m19, .int m20, .ref m21, .ref m22, .int m23, .int m24, .int m25, .int m26, .ref m27, .int m28, .ref m29, .int m30, .int m31, .ref m32, .int m33, .ref m34, .ref m35, .int m36, .int m37, .ref m38, .int m39, .int m40, .int m41, .ref m42, .int m43, .ref m44, .int m45, .int m46, .int m47, .int m48, .int m49, .ref m50, .ref m51, .ref m52, .ref m53])), (m1, .inl (m1t, 940, .inl f_8)), (m6, .inl (m6t, 283, .inl m6f)), (m7, .inl (m7t, 67, .inl m7f)), (m8, .inl (m8t, 135, .inl m8f)), (m9, .inl (m9t, 36, .inr (.inl m9f))), (m10, .inl (m10t, 21, .inr (.inl m10f))), (m21, .inl (m21t, 280, .inl m21f)), (m22, .inl (m22t, 35, .inl m22f)), (m27, .inl (m27t, 4, .inl m27f)), (m29, .inl (m29t, 5, .inl m29f)), (m32, .inl (m32t, 7, .inl m32f)), (m34, .inl (m34t, 25, .inl m34f)), (m35, .inl (m35t, 25, .inl m35f)), (m38, .inl (m38t, 48, .inl m38f)), (m42, .inl (m42t, 4, .inl m42f)), (m44, .inl (m44t, 45, .inl m44f)), (m50, .inl (m50t, 45, .inl m50f)), (m51, .inl (m51t, 566, .inl m51f)), (m52, .inl (m52t, 36, .inr (.inl m52f))), (m53, .inl (m53t, 2, .inl m53f))] := hD
  refine lv_iinc (v := 8) (lv' := [(2, .int 8), (0, .ref mo), (1, .int i0)]) hx hb dX12_four_30 hl (k := 0) rfl (by decide) (by decide) rfl (fun ls hl => ?_)
  refine lv_goto (tgt := 3) hx hb dX12_four_33 (by decide) ?_
  refine lv_iload_n hx hb dX12_four_3 rfl (lv_at hl 0 rfl) ?_
  refine lv_if_lt (tgt := 36) hx hb dX12_four_4 (by decide) (fun h9 => absurd h9 (by decide)) (fun _ => ?_)
  refine lv_aload_n hx hb dX12_four_7 rfl (lv_at hl 1 rfl) ?_
  refine va_get (D := D) (ci := 11) (v := .ref m1) (C := RX12) (T := TX12) (N := 54) hx hb hts hiX12 hown hK hP 0 rfl rfl 1 (by decide) (hts _ (List.mem_of_getElem? (i := 1) rfl)) (fun _ h9 => h9) rfl dX12_four_8 ?_
  refine lv_aload_n hx hb dX12_four_11 rfl (lv_at hl 1 rfl) ?_
  refine va_get (D := D) (ci := 11) (v := .int y_9) (C := RX12) (T := TX12) (N := 54) hx hb hts hiX12 hown hK hP 0 rfl rfl 2 (by decide) (hts _ (List.mem_of_getElem? (i := 2) rfl)) (fun _ h9 => h9) rfl dX12_four_12 ?_
  refine lv_iload_n hx hb dX12_four_15 rfl (lv_at hl 2 rfl) ?_
  refine lv_iload_n hx hb dX12_four_16 rfl (lv_at hl 0 rfl) ?_
  refine lv_ishr hx hb dX12_four_17 ?_
  refine lv_topi (fun y_11 ey_11 => ?_)
  refine lv_i2b hx hb dX12_four_18 rfl ?_
  refine lv_topi (fun y_12 ey_12 => ?_)
  refine va_bast hx hb hK hP hD hS 1 0 rfl rfl (z_vp h_10 rfl) dX12_four_19 (fun H locs hP hD hS => ?_)
  generalize ef_13 : (upd f_8 (y_9 : Int32).toNatClampNeg (vp_nar .byte y_12)) = f_13 at hP hD
  have hP : va_P D vwCl [(mo, .inr (11, [.int m0, .ref m1, .int y_9, .int m3, .int m4, .int m5, .ref m6, .ref m7, .ref m8, .ref m9, .ref m10, .int m11, .int m12, .int m13, .int m14, .int m15, .int m16, .long m17, .int m18, .int m19, .int m20, .ref m21, .ref m22, .int m23, .int m24, .int m25, .int m26, .ref m27, .int m28, .ref m29, .int m30, .int m31, .ref m32, .int m33, .ref m34, .ref m35, .int m36, .int m37, .ref m38, .int m39, .int m40, .int m41, .ref m42, .int m43, .ref m44, .int m45, .int m46, .int m47, .int m48, .int m49, .ref m50, .ref m51, .ref m52, .ref m53])), (m1, .inl (m1t, 940, .inl f_13)), (m6, .inl (m6t, 283, .inl m6f)), (m7, .inl (m7t, 67, .inl m7f)), (m8, .inl (m8t, 135, .inl m8f)), (m9, .inl (m9t, 36, .inr (.inl m9f))), (m10, .inl (m10t, 21, .inr (.inl m10f))), (m21, .inl (m21t, 280, .inl m21f)), (m22, .inl (m22t, 35, .inl m22f)), (m27, .inl (m27t, 4, .inl m27f)), (m29, .inl (m29t, 5, .inl m29f)), (m32, .inl (m32t, 7, .inl m32f)), (m34, .inl (m34t, 25, .inl m34f)), (m35, .inl (m35t, 25, .inl m35f)), (m38, .inl (m38t, 48, .inl m38f)), (m42, .inl (m42t, 4, .inl m42f)), (m44, .inl (m44t, 45, .inl m44f)), (m50, .inl (m50t, 45, .inl m50f)), (m51, .inl (m51t, 566, .inl m51f)), (m52, .inl (m52t, 36, .inr (.inl m52f))), (m53, .inl (m53t, 2, .inl m53f))] H := hP
  have hD : va_D A [(mo, .inr (11, [.int m0, .ref m1, .int y_9, .int m3, .int m4, .int m5, .ref m6, .ref m7, .ref m8, .ref m9, .ref m10, .int m11, .int m12, .int m13, .int m14, .int m15, .int m16, .long m17, .int m18, .int m19, .int m20, .ref m21, .ref m22, .int m23, .int m24, .int m25, .int m26, .ref m27, .int m28, .ref m29, .int m30, .int m31, .ref m32, .int m33, .ref m34, .ref m35, .int m36, .int m37, .ref m38, .int m39, .int m40, .int m41, .ref m42, .int m43, .ref m44, .int m45, .int m46, .int m47, .int m48, .int m49, .ref m50, .ref m51, .ref m52, .ref m53])), (m1, .inl (m1t, 940, .inl f_13)), (m6, .inl (m6t, 283, .inl m6f)), (m7, .inl (m7t, 67, .inl m7f)), (m8, .inl (m8t, 135, .inl m8f)), (m9, .inl (m9t, 36, .inr (.inl m9f))), (m10, .inl (m10t, 21, .inr (.inl m10f))), (m21, .inl (m21t, 280, .inl m21f)), (m22, .inl (m22t, 35, .inl m22f)), (m27, .inl (m27t, 4, .inl m27f)), (m29, .inl (m29t, 5, .inl m29f)), (m32, .inl (m32t, 7, .inl m32f)), (m34, .inl (m34t, 25, .inl m34f)), (m35, .inl (m35t, 25, .inl m35f)), (m38, .inl (m38t, 48, .inl m38f)), (m42, .inl (m42t, 4, .inl m42f)), (m44, .inl (m44t, 45, .inl m44f)), (m50, .inl (m50t, 45, .inl m50f)), (m51, .inl (m51t, 566, .inl m51f)), (m52, .inl (m52t, 36, .inr (.inl m52f))), (m53, .inl (m53t, 2, .inl m53f))] := hD
  refine lv_aload_n hx hb dX12_four_20 rfl (lv_at hl 1 rfl) ?_
  refine lv_dup hx hb dX12_four_21 rfl ?_
  refine va_get (D := D) (ci := 11) (v := .int y_9) (C := RX12) (T := TX12) (N := 54) hx hb hts hiX12 hown hK hP 0 rfl rfl 2 (by decide) (hts _ (List.mem_of_getElem? (i := 2) rfl)) (fun _ h9 => h9) rfl dX12_four_22 ?_
  refine lv_iconst (v := 1) hx hb dX12_four_25 (by decide) ?_
  refine lv_iadd hx hb dX12_four_26 ?_
  refine lv_topi (fun y_14 ey_14 => ?_)
  have h_15 : z_in 3 939 y_14 := by rw [ey_14]; exact z_add h_10 (z_lit (x := 1) (a := 1) (b := 1) rfl) rfl rfl
  have ty_14 : y_14.toInt = y_9.toInt + 1 := by rw [ey_14]; exact (z_addT h_10 (z_lit (x := 1) (a := 1) (b := 1) rfl) rfl).trans rfl
  refine va_put (D := D) (ci := 11) (v := .int y_14) (ty := tyX12 2) (C := RX12) (T := TX12) (N := 54) hx hb hts hiX12 tyX12 tyX12_ok nmX12 hown hK hP hD hS 0 rfl rfl 2 (by decide) (hts _ (List.mem_of_getElem? (i := 2) rfl)) (fun _ h9 => h9) rfl (tyX12_ok 2 (by decide)) rfl rfl (Nat.le_of_ble_eq_true rfl) dX12_four_27 (fun H locs hP hD hS => ?_)
  have hP : va_P D vwCl [(mo, .inr (11, [.int m0, .ref m1, .int y_14, .int m3, .int m4, .int m5, .ref m6, .ref m7, .ref m8, .ref m9, .ref m10, .int m11, .int m12, .int m13, .int m14, .int m15, .int m16, .long m17, .int m18, .int m19, .int m20, .ref m21, .ref m22, .int m23, .int m24, .int m25, .int m26, .ref m27, .int m28, .ref m29, .int m30, .int m31, .ref m32, .int m33, .ref m34, .ref m35, .int m36, .int m37, .ref m38, .int m39, .int m40, .int m41, .ref m42, .int m43, .ref m44, .int m45, .int m46, .int m47, .int m48, .int m49, .ref m50, .ref m51, .ref m52, .ref m53])), (m1, .inl (m1t, 940, .inl f_13)), (m6, .inl (m6t, 283, .inl m6f)), (m7, .inl (m7t, 67, .inl m7f)), (m8, .inl (m8t, 135, .inl m8f)), (m9, .inl (m9t, 36, .inr (.inl m9f))), (m10, .inl (m10t, 21, .inr (.inl m10f))), (m21, .inl (m21t, 280, .inl m21f)), (m22, .inl (m22t, 35, .inl m22f)), (m27, .inl (m27t, 4, .inl m27f)), (m29, .inl (m29t, 5, .inl m29f)), (m32, .inl (m32t, 7, .inl m32f)), (m34, .inl (m34t, 25, .inl m34f)), (m35, .inl (m35t, 25, .inl m35f)), (m38, .inl (m38t, 48, .inl m38f)), (m42, .inl (m42t, 4, .inl m42f)), (m44, .inl (m44t, 45, .inl m44f)), (m50, .inl (m50t, 45, .inl m50f)), (m51, .inl (m51t, 566, .inl m51f)), (m52, .inl (m52t, 36, .inr (.inl m52f))), (m53, .inl (m53t, 2, .inl m53f))] H := hP
  have hD : va_D A [(mo, .inr (11, [.int m0, .ref m1, .int y_14, .int m3, .int m4, .int m5, .ref m6, .ref m7, .ref m8, .ref m9, .ref m10, .int m11, .int m12, .int m13, .int m14, .int m15, .int m16, .long m17, .int m18, .int m19, .int m20, .ref m21, .ref m22, .int m23, .int m24, .int m25, .int m26, .ref m27, .int m28, .ref m29, .int m30, .int m31, .ref m32, .int m33, .ref m34, .ref m35, .int m36, .int m37, .ref m38, .int m39, .int m40, .int m41, .ref m42, .int m43, .ref m44, .int m45, .int m46, .int m47, .int m48, .int m49, .ref m50, .ref m51, .ref m52, .ref m53])), (m1, .inl (m1t, 940, .inl f_13)), (m6, .inl (m6t, 283, .inl m6f)), (m7, .inl (m7t, 67, .inl m7f)), (m8, .inl (m8t, 135, .inl m8f)), (m9, .inl (m9t, 36, .inr (.inl m9f))), (m10, .inl (m10t, 21, .inr (.inl m10f))), (m21, .inl (m21t, 280, .inl m21f)), (m22, .inl (m22t, 35, .inl m22f)), (m27, .inl (m27t, 4, .inl m27f)), (m29, .inl (m29t, 5, .inl m29f)), (m32, .inl (m32t, 7, .inl m32f)), (m34, .inl (m34t, 25, .inl m34f)), (m35, .inl (m35t, 25, .inl m35f)), (m38, .inl (m38t, 48, .inl m38f)), (m42, .inl (m42t, 4, .inl m42f)), (m44, .inl (m44t, 45, .inl m44f)), (m50, .inl (m50t, 45, .inl m50f)), (m51, .inl (m51t, 566, .inl m51f)), (m52, .inl (m52t, 36, .inr (.inl m52f))), (m53, .inl (m53t, 2, .inl m53f))] := hD
  refine lv_iinc (v := 0) (lv' := [(2, .int 0), (0, .ref mo), (1, .int i0)]) hx hb dX12_four_30 hl (k := 0) rfl (by decide) (by decide) rfl (fun ls hl => ?_)
  refine lv_goto (tgt := 3) hx hb dX12_four_33 (by decide) ?_
  refine lv_iload_n hx hb dX12_four_3 rfl (lv_at hl 0 rfl) ?_
  refine lv_if_lt (tgt := 36) hx hb dX12_four_4 (by decide) (fun h9 => absurd h9 (by decide)) (fun _ => ?_)
  refine lv_aload_n hx hb dX12_four_7 rfl (lv_at hl 1 rfl) ?_
  refine va_get (D := D) (ci := 11) (v := .ref m1) (C := RX12) (T := TX12) (N := 54) hx hb hts hiX12 hown hK hP 0 rfl rfl 1 (by decide) (hts _ (List.mem_of_getElem? (i := 1) rfl)) (fun _ h9 => h9) rfl dX12_four_8 ?_
  refine lv_aload_n hx hb dX12_four_11 rfl (lv_at hl 1 rfl) ?_
  refine va_get (D := D) (ci := 11) (v := .int y_14) (C := RX12) (T := TX12) (N := 54) hx hb hts hiX12 hown hK hP 0 rfl rfl 2 (by decide) (hts _ (List.mem_of_getElem? (i := 2) rfl)) (fun _ h9 => h9) rfl dX12_four_12 ?_
  refine lv_iload_n hx hb dX12_four_15 rfl (lv_at hl 2 rfl) ?_
  refine lv_iload_n hx hb dX12_four_16 rfl (lv_at hl 0 rfl) ?_
  refine lv_ishr hx hb dX12_four_17 ?_
  refine lv_topi (fun y_16 ey_16 => ?_)
  refine lv_i2b hx hb dX12_four_18 rfl ?_
  refine lv_topi (fun y_17 ey_17 => ?_)
  refine va_bast hx hb hK hP hD hS 1 0 rfl rfl (z_vp h_15 rfl) dX12_four_19 (fun H locs hP hD hS => ?_)
  generalize ef_18 : (upd f_13 (y_14 : Int32).toNatClampNeg (vp_nar .byte y_17)) = f_18 at hP hD
  have hP : va_P D vwCl [(mo, .inr (11, [.int m0, .ref m1, .int y_14, .int m3, .int m4, .int m5, .ref m6, .ref m7, .ref m8, .ref m9, .ref m10, .int m11, .int m12, .int m13, .int m14, .int m15, .int m16, .long m17, .int m18, .int m19, .int m20, .ref m21, .ref m22, .int m23, .int m24, .int m25, .int m26, .ref m27, .int m28, .ref m29, .int m30, .int m31, .ref m32, .int m33, .ref m34, .ref m35, .int m36, .int m37, .ref m38, .int m39, .int m40, .int m41, .ref m42, .int m43, .ref m44, .int m45, .int m46, .int m47, .int m48, .int m49, .ref m50, .ref m51, .ref m52, .ref m53])), (m1, .inl (m1t, 940, .inl f_18)), (m6, .inl (m6t, 283, .inl m6f)), (m7, .inl (m7t, 67, .inl m7f)), (m8, .inl (m8t, 135, .inl m8f)), (m9, .inl (m9t, 36, .inr (.inl m9f))), (m10, .inl (m10t, 21, .inr (.inl m10f))), (m21, .inl (m21t, 280, .inl m21f)), (m22, .inl (m22t, 35, .inl m22f)), (m27, .inl (m27t, 4, .inl m27f)), (m29, .inl (m29t, 5, .inl m29f)), (m32, .inl (m32t, 7, .inl m32f)), (m34, .inl (m34t, 25, .inl m34f)), (m35, .inl (m35t, 25, .inl m35f)), (m38, .inl (m38t, 48, .inl m38f)), (m42, .inl (m42t, 4, .inl m42f)), (m44, .inl (m44t, 45, .inl m44f)), (m50, .inl (m50t, 45, .inl m50f)), (m51, .inl (m51t, 566, .inl m51f)), (m52, .inl (m52t, 36, .inr (.inl m52f))), (m53, .inl (m53t, 2, .inl m53f))] H := hP
  have hD : va_D A [(mo, .inr (11, [.int m0, .ref m1, .int y_14, .int m3, .int m4, .int m5, .ref m6, .ref m7, .ref m8, .ref m9, .ref m10, .int m11, .int m12, .int m13, .int m14, .int m15, .int m16, .long m17, .int m18, .int m19, .int m20, .ref m21, .ref m22, .int m23, .int m24, .int m25, .int m26, .ref m27, .int m28, .ref m29, .int m30, .int m31, .ref m32, .int m33, .ref m34, .ref m35, .int m36, .int m37, .ref m38, .int m39, .int m40, .int m41, .ref m42, .int m43, .ref m44, .int m45, .int m46, .int m47, .int m48, .int m49, .ref m50, .ref m51, .ref m52, .ref m53])), (m1, .inl (m1t, 940, .inl f_18)), (m6, .inl (m6t, 283, .inl m6f)), (m7, .inl (m7t, 67, .inl m7f)), (m8, .inl (m8t, 135, .inl m8f)), (m9, .inl (m9t, 36, .inr (.inl m9f))), (m10, .inl (m10t, 21, .inr (.inl m10f))), (m21, .inl (m21t, 280, .inl m21f)), (m22, .inl (m22t, 35, .inl m22f)), (m27, .inl (m27t, 4, .inl m27f)), (m29, .inl (m29t, 5, .inl m29f)), (m32, .inl (m32t, 7, .inl m32f)), (m34, .inl (m34t, 25, .inl m34f)), (m35, .inl (m35t, 25, .inl m35f)), (m38, .inl (m38t, 48, .inl m38f)), (m42, .inl (m42t, 4, .inl m42f)), (m44, .inl (m44t, 45, .inl m44f)), (m50, .inl (m50t, 45, .inl m50f)), (m51, .inl (m51t, 566, .inl m51f)), (m52, .inl (m52t, 36, .inr (.inl m52f))), (m53, .inl (m53t, 2, .inl m53f))] := hD
  refine lv_aload_n hx hb dX12_four_20 rfl (lv_at hl 1 rfl) ?_
  refine lv_dup hx hb dX12_four_21 rfl ?_
  refine va_get (D := D) (ci := 11) (v := .int y_14) (C := RX12) (T := TX12) (N := 54) hx hb hts hiX12 hown hK hP 0 rfl rfl 2 (by decide) (hts _ (List.mem_of_getElem? (i := 2) rfl)) (fun _ h9 => h9) rfl dX12_four_22 ?_
  refine lv_iconst (v := 1) hx hb dX12_four_25 (by decide) ?_
  refine lv_iadd hx hb dX12_four_26 ?_
  refine lv_topi (fun y_19 ey_19 => ?_)
  have h_20 : z_in 4 940 y_19 := by rw [ey_19]; exact z_add h_15 (z_lit (x := 1) (a := 1) (b := 1) rfl) rfl rfl
  have ty_19 : y_19.toInt = y_14.toInt + 1 := by rw [ey_19]; exact (z_addT h_15 (z_lit (x := 1) (a := 1) (b := 1) rfl) rfl).trans rfl
  refine va_put (D := D) (ci := 11) (v := .int y_19) (ty := tyX12 2) (C := RX12) (T := TX12) (N := 54) hx hb hts hiX12 tyX12 tyX12_ok nmX12 hown hK hP hD hS 0 rfl rfl 2 (by decide) (hts _ (List.mem_of_getElem? (i := 2) rfl)) (fun _ h9 => h9) rfl (tyX12_ok 2 (by decide)) rfl rfl (Nat.le_of_ble_eq_true rfl) dX12_four_27 (fun H locs hP hD hS => ?_)
  have hP : va_P D vwCl [(mo, .inr (11, [.int m0, .ref m1, .int y_19, .int m3, .int m4, .int m5, .ref m6, .ref m7, .ref m8, .ref m9, .ref m10, .int m11, .int m12, .int m13, .int m14, .int m15, .int m16, .long m17, .int m18, .int m19, .int m20, .ref m21, .ref m22, .int m23, .int m24, .int m25, .int m26, .ref m27, .int m28, .ref m29, .int m30, .int m31, .ref m32, .int m33, .ref m34, .ref m35, .int m36, .int m37, .ref m38, .int m39, .int m40, .int m41, .ref m42, .int m43, .ref m44, .int m45, .int m46, .int m47, .int m48, .int m49, .ref m50, .ref m51, .ref m52, .ref m53])), (m1, .inl (m1t, 940, .inl f_18)), (m6, .inl (m6t, 283, .inl m6f)), (m7, .inl (m7t, 67, .inl m7f)), (m8, .inl (m8t, 135, .inl m8f)), (m9, .inl (m9t, 36, .inr (.inl m9f))), (m10, .inl (m10t, 21, .inr (.inl m10f))), (m21, .inl (m21t, 280, .inl m21f)), (m22, .inl (m22t, 35, .inl m22f)), (m27, .inl (m27t, 4, .inl m27f)), (m29, .inl (m29t, 5, .inl m29f)), (m32, .inl (m32t, 7, .inl m32f)), (m34, .inl (m34t, 25, .inl m34f)), (m35, .inl (m35t, 25, .inl m35f)), (m38, .inl (m38t, 48, .inl m38f)), (m42, .inl (m42t, 4, .inl m42f)), (m44, .inl (m44t, 45, .inl m44f)), (m50, .inl (m50t, 45, .inl m50f)), (m51, .inl (m51t, 566, .inl m51f)), (m52, .inl (m52t, 36, .inr (.inl m52f))), (m53, .inl (m53t, 2, .inl m53f))] H := hP
  have hD : va_D A [(mo, .inr (11, [.int m0, .ref m1, .int y_19, .int m3, .int m4, .int m5, .ref m6, .ref m7, .ref m8, .ref m9, .ref m10, .int m11, .int m12, .int m13, .int m14, .int m15, .int m16, .long m17, .int m18, .int m19, .int m20, .ref m21, .ref m22, .int m23, .int m24, .int m25, .int m26, .ref m27, .int m28, .ref m29, .int m30, .int m31, .ref m32, .int m33, .ref m34, .ref m35, .int m36, .int m37, .ref m38, .int m39, .int m40, .int m41, .ref m42, .int m43, .ref m44, .int m45, .int m46, .int m47, .int m48, .int m49, .ref m50, .ref m51, .ref m52, .ref m53])), (m1, .inl (m1t, 940, .inl f_18)), (m6, .inl (m6t, 283, .inl m6f)), (m7, .inl (m7t, 67, .inl m7f)), (m8, .inl (m8t, 135, .inl m8f)), (m9, .inl (m9t, 36, .inr (.inl m9f))), (m10, .inl (m10t, 21, .inr (.inl m10f))), (m21, .inl (m21t, 280, .inl m21f)), (m22, .inl (m22t, 35, .inl m22f)), (m27, .inl (m27t, 4, .inl m27f)), (m29, .inl (m29t, 5, .inl m29f)), (m32, .inl (m32t, 7, .inl m32f)), (m34, .inl (m34t, 25, .inl m34f)), (m35, .inl (m35t, 25, .inl m35f)), (m38, .inl (m38t, 48, .inl m38f)), (m42, .inl (m42t, 4, .inl m42f)), (m44, .inl (m44t, 45, .inl m44f)), (m50, .inl (m50t, 45, .inl m50f)), (m51, .inl (m51t, 566, .inl m51f)), (m52, .inl (m52t, 36, .inr (.inl m52f))), (m53, .inl (m53t, 2, .inl m53f))] := hD
  refine lv_iinc (v := (-8)) (lv' := [(2, .int (-8)), (0, .ref mo), (1, .int i0)]) hx hb dX12_four_30 hl (k := 0) rfl (by decide) (by decide) rfl (fun ls hl => ?_)
  refine lv_goto (tgt := 3) hx hb dX12_four_33 (by decide) ?_
  refine lv_iload_n hx hb dX12_four_3 rfl (lv_at hl 0 rfl) ?_
  refine lv_if_lt (tgt := 36) hx hb dX12_four_4 (by decide) (fun _ => ?_) (fun h9 => absurd (by decide) h9)
  exact hret ([(mo, .inr (11, [.int m0, .ref m1, .int y_19, .int m3, .int m4, .int m5, .ref m6, .ref m7, .ref m8, .ref m9, .ref m10, .int m11, .int m12, .int m13, .int m14, .int m15, .int m16, .long m17, .int m18, .int m19, .int m20, .ref m21, .ref m22, .int m23, .int m24, .int m25, .int m26, .ref m27, .int m28, .ref m29, .int m30, .int m31, .ref m32, .int m33, .ref m34, .ref m35, .int m36, .int m37, .ref m38, .int m39, .int m40, .int m41, .ref m42, .int m43, .ref m44, .int m45, .int m46, .int m47, .int m48, .int m49, .ref m50, .ref m51, .ref m52, .ref m53])), (m1, .inl (m1t, 940, .inl f_18)), (m6, .inl (m6t, 283, .inl m6f)), (m7, .inl (m7t, 67, .inl m7f)), (m8, .inl (m8t, 135, .inl m8f)), (m9, .inl (m9t, 36, .inr (.inl m9f))), (m10, .inl (m10t, 21, .inr (.inl m10f))), (m21, .inl (m21t, 280, .inl m21f)), (m22, .inl (m22t, 35, .inl m22f)), (m27, .inl (m27t, 4, .inl m27f)), (m29, .inl (m29t, 5, .inl m29f)), (m32, .inl (m32t, 7, .inl m32f)), (m34, .inl (m34t, 25, .inl m34f)), (m35, .inl (m35t, 25, .inl m35f)), (m38, .inl (m38t, 48, .inl m38f)), (m42, .inl (m42t, 4, .inl m42f)), (m44, .inl (m44t, 45, .inl m44f)), (m50, .inl (m50t, 45, .inl m50f)), (m51, .inl (m51t, 566, .inl m51f)), (m52, .inl (m52t, 36, .inr (.inl m52f))), (m53, .inl (m53t, 2, .inl m53f))], []) _ _ _ _ dX12_four_36 ⟨y_19, f_18, h_20, (show z_a4 m2 y_19 from by have q0 := ty_19; have q1 := ty_14; have q2 := ty_9; have q3 := ty_4; unfold z_a4; omega), (z_m4I ef_3 ef_8 ef_13 ef_18 ey_2 ey_7 ey_12 ey_17 ey_1 ey_6 ey_11 ey_16 ty_4 ty_9 ty_14), rfl⟩ hP (hK.sub [] rfl) hD hS

set_option maxHeartbeats 8000000 in
set_option maxRecDepth 100000 in
theorem m_feed (l : Launch) (D : va_G) (ad : Nat → Nat) (mo : Nat) (m0 : Int32) (m2 : Int32) (m3 : Int32) (m4 : Int32) (m5 : Int32) (m11 : Int32) (m12 : Int32) (m13 : Int32) (m14 : Int32) (m15 : Int32) (m16 : Int32) (m17 : Int64) (m18 : Int32) (m19 : Int32) (m20 : Int32) (m23 : Int32) (m24 : Int32) (m25 : Int32) (m26 : Int32) (m28 : Int32) (m30 : Int32) (m31 : Int32) (m33 : Int32) (m36 : Int32) (m37 : Int32) (m39 : Int32) (m40 : Int32) (m41 : Int32) (m43 : Int32) (m45 : Int32) (m46 : Int32) (m47 : Int32) (m48 : Int32) (m49 : Int32) (m1 : Nat) (m1t : ClassId) (m1f : Nat → Int32) (m6 : Nat) (m6t : ClassId) (m6f : Nat → Int32) (m7 : Nat) (m7t : ClassId) (m7f : Nat → Int32) (m8 : Nat) (m8t : ClassId) (m8f : Nat → Int32) (m9 : Nat) (m9t : ClassId) (m9f : Nat → Int64) (m10 : Nat) (m10t : ClassId) (m10f : Nat → Int64) (m21 : Nat) (m21t : ClassId) (m21f : Nat → Int32) (m22 : Nat) (m22t : ClassId) (m22f : Nat → Int32) (m27 : Nat) (m27t : ClassId) (m27f : Nat → Int32) (m29 : Nat) (m29t : ClassId) (m29f : Nat → Int32) (m32 : Nat) (m32t : ClassId) (m32f : Nat → Int32) (m34 : Nat) (m34t : ClassId) (m34f : Nat → Int32) (m35 : Nat) (m35t : ClassId) (m35f : Nat → Int32) (m38 : Nat) (m38t : ClassId) (m38f : Nat → Int32) (m42 : Nat) (m42t : ClassId) (m42f : Nat → Int32) (m44 : Nat) (m44t : ClassId) (m44f : Nat → Int32) (m50 : Nat) (m50t : ClassId) (m50f : Nat → Int32) (m51 : Nat) (m51t : ClassId) (m51f : Nat → Int32) (m52 : Nat) (m52t : ClassId) (m52f : Nat → Int64) (m53 : Nat) (m53t : ClassId) (m53f : Nat → Int32) (i0 : Int32) (i1 : Int32) (i2 : Int32) (i3 : Int32) (i4 : Int32) (hm2 : z_in 0 940 m2) (hm3 : z_in 0 940 m3) (hm4 : z_in 0 940 m4) (hm5 : z_in 0 940 m5) (hm11 : z_in 0 4 m11) (hm20 : z_in 0 1 m20) (hm23 : z_in 0 8 m23) (hm26 : z_in 0 1 m26) (hm28 : z_in (-1) 4 m28) (hm31 : z_in 0 1 m31) (hm33 : z_in (-1) 7 m33) (hm37 : z_in 0 1 m37) (hm39 : z_in 0 48 m39) (hm41 : z_in 0 40 m41) (hm43 : z_in 0 1 m43) (hm45 : z_in 0 45 m45) (hm46 : z_in 0 20 m46) (hm47 : z_in 0 45 m47) (hm49 : z_in 0 1 m49) (hm6f : z_sr m6f) (hm7f : z_hr m7f) (hm21f : z_ar rgU m21f) (hm22f : z_ar rgB m22f) (hm27f : z_al 0 4 m27f) (hm32f : z_al 0 4 m32f) (hm34f : z_al 0 1 m34f) (hm35f : z_al 0 1 m35f) (hm50f : z_al 0 1 m50f) (hm51f : z_ir m51f) (hm53f : z_al 0 1 m53f) : z_Mi l yX12_feed wsX12_feed { frames := 1, cells := 0, slots := 0, locals := 22 } D ad [.ref mo, .int i0, .int i1, .int i2, .int i3, .int i4] [(mo, .inr (11, [.int m0, .ref m1, .int m2, .int m3, .int m4, .int m5, .ref m6, .ref m7, .ref m8, .ref m9, .ref m10, .int m11, .int m12, .int m13, .int m14, .int m15, .int m16, .long m17, .int m18, .int m19, .int m20, .ref m21, .ref m22, .int m23, .int m24, .int m25, .int m26, .ref m27, .int m28, .ref m29, .int m30, .int m31, .ref m32, .int m33, .ref m34, .ref m35, .int m36, .int m37, .ref m38, .int m39, .int m40, .int m41, .ref m42, .int m43, .ref m44, .int m45, .int m46, .int m47, .int m48, .int m49, .ref m50, .ref m51, .ref m52, .ref m53])), (m1, .inl (m1t, 940, .inl m1f)), (m6, .inl (m6t, 283, .inl m6f)), (m7, .inl (m7t, 67, .inl m7f)), (m8, .inl (m8t, 135, .inl m8f)), (m9, .inl (m9t, 36, .inr (.inl m9f))), (m10, .inl (m10t, 21, .inr (.inl m10f))), (m21, .inl (m21t, 280, .inl m21f)), (m22, .inl (m22t, 35, .inl m22f)), (m27, .inl (m27t, 4, .inl m27f)), (m29, .inl (m29t, 5, .inl m29f)), (m32, .inl (m32t, 7, .inl m32f)), (m34, .inl (m34t, 25, .inl m34f)), (m35, .inl (m35t, 25, .inl m35f)), (m38, .inl (m38t, 48, .inl m38f)), (m42, .inl (m42t, 4, .inl m42f)), (m44, .inl (m44t, 45, .inl m44f)), (m50, .inl (m50t, 45, .inl m50f)), (m51, .inl (m51t, 566, .inl m51f)), (m52, .inl (m52t, 36, .inr (.inl m52f))), (m53, .inl (m53t, 2, .inl m53f))] [(m1t, .byte), (m6t, .int), (m7t, .int), (m8t, .int), (m9t, .long), (m10t, .long), (m21t, .int), (m22t, .int), (m27t, .int), (m29t, .int), (m32t, .int), (m34t, .boolean), (m35t, .boolean), (m38t, .byte), (m42t, .int), (m44t, .int), (m50t, .boolean), (m51t, .int), (m52t, .long), (m53t, .boolean)] 0 0 (fun r9 u9 => ∃ (x0_0 : Int32) (x0_2 : Int32) (x1_f : Nat → Int32), z_in 0 940 x0_2 ∧ z_in (-1) 940 r9 ∧ (0 ≤ r9.toInt → z_in 0 920 m2) ∧ z_tf r9 x0_2 m2 ∧ z_ff x1_f m1f m2 i0 i1 i2 i3 i4 ∧ u9 = ([(mo, .inr (11, [.int x0_0, .ref m1, .int x0_2, .int m3, .int m4, .int m5, .ref m6, .ref m7, .ref m8, .ref m9, .ref m10, .int m11, .int m12, .int m13, .int m14, .int m15, .int m16, .long m17, .int m18, .int m19, .int m20, .ref m21, .ref m22, .int m23, .int m24, .int m25, .int m26, .ref m27, .int m28, .ref m29, .int m30, .int m31, .ref m32, .int m33, .ref m34, .ref m35, .int m36, .int m37, .ref m38, .int m39, .int m40, .int m41, .ref m42, .int m43, .ref m44, .int m45, .int m46, .int m47, .int m48, .int m49, .ref m50, .ref m51, .ref m52, .ref m53])), (m1, .inl (m1t, 940, .inl x1_f)), (m6, .inl (m6t, 283, .inl m6f)), (m7, .inl (m7t, 67, .inl m7f)), (m8, .inl (m8t, 135, .inl m8f)), (m9, .inl (m9t, 36, .inr (.inl m9f))), (m10, .inl (m10t, 21, .inr (.inl m10f))), (m21, .inl (m21t, 280, .inl m21f)), (m22, .inl (m22t, 35, .inl m22f)), (m27, .inl (m27t, 4, .inl m27f)), (m29, .inl (m29t, 5, .inl m29f)), (m32, .inl (m32t, 7, .inl m32f)), (m34, .inl (m34t, 25, .inl m34f)), (m35, .inl (m35t, 25, .inl m35f)), (m38, .inl (m38t, 48, .inl m38f)), (m42, .inl (m42t, 4, .inl m42f)), (m44, .inl (m44t, 45, .inl m44f)), (m50, .inl (m50t, 45, .inl m50f)), (m51, .inl (m51t, 566, .inl m51f)), (m52, .inl (m52t, 36, .inr (.inl m52f))), (m53, .inl (m53t, 2, .inl m53f))], [])) := by
  refine z_ofI (cc := cX12_feed) (maxL := 6) (rt := .int) (by decide) rfl (Nat.le_of_ble_eq_true rfl) ?_
  intro p e s m below meth c Q A ls hx hb hml hown hts hin hK hP hD hA hE hO hS hl hret
  have hown : s.vm.findClass RX12 = some m.cls := hown
  have hiX12 : ∀ w ∈ wsX120, w ∈ wsX12_feed := fun _ h9 => List.mem_cons_of_mem _ (List.mem_append_right _ h9)
  have hl : lv_has ls 6 [(0, .ref mo), (1, .int i0), (2, .int i1), (3, .int i2), (4, .int i3), (5, .int i4)] := hl
  refine lv_aload_n hx hb dX12_feed_0 rfl (lv_at hl 0 rfl) ?_
  refine lv_iconst (v := 0) hx hb dX12_feed_1 (by decide) ?_
  refine va_put (D := D) (ci := 11) (v := .int 0) (ty := tyX12 0) (C := RX12) (T := TX12) (N := 54) hx hb hts hiX12 tyX12 tyX12_ok nmX12 hown hK hP hD hS 0 rfl rfl 0 (by decide) (hts _ (List.mem_of_getElem? (i := 1) rfl)) (fun _ h9 => h9) rfl (tyX12_ok 0 (by decide)) rfl rfl (Nat.le_of_ble_eq_true rfl) dX12_feed_2 (fun H locs hP hD hS => ?_)
  have hP : va_P D vwCl [(mo, .inr (11, [.int 0, .ref m1, .int m2, .int m3, .int m4, .int m5, .ref m6, .ref m7, .ref m8, .ref m9, .ref m10, .int m11, .int m12, .int m13, .int m14, .int m15, .int m16, .long m17, .int m18, .int m19, .int m20, .ref m21, .ref m22, .int m23, .int m24, .int m25, .int m26, .ref m27, .int m28, .ref m29, .int m30, .int m31, .ref m32, .int m33, .ref m34, .ref m35, .int m36, .int m37, .ref m38, .int m39, .int m40, .int m41, .ref m42, .int m43, .ref m44, .int m45, .int m46, .int m47, .int m48, .int m49, .ref m50, .ref m51, .ref m52, .ref m53])), (m1, .inl (m1t, 940, .inl m1f)), (m6, .inl (m6t, 283, .inl m6f)), (m7, .inl (m7t, 67, .inl m7f)), (m8, .inl (m8t, 135, .inl m8f)), (m9, .inl (m9t, 36, .inr (.inl m9f))), (m10, .inl (m10t, 21, .inr (.inl m10f))), (m21, .inl (m21t, 280, .inl m21f)), (m22, .inl (m22t, 35, .inl m22f)), (m27, .inl (m27t, 4, .inl m27f)), (m29, .inl (m29t, 5, .inl m29f)), (m32, .inl (m32t, 7, .inl m32f)), (m34, .inl (m34t, 25, .inl m34f)), (m35, .inl (m35t, 25, .inl m35f)), (m38, .inl (m38t, 48, .inl m38f)), (m42, .inl (m42t, 4, .inl m42f)), (m44, .inl (m44t, 45, .inl m44f)), (m50, .inl (m50t, 45, .inl m50f)), (m51, .inl (m51t, 566, .inl m51f)), (m52, .inl (m52t, 36, .inr (.inl m52f))), (m53, .inl (m53t, 2, .inl m53f))] H := hP
  have hD : va_D A [(mo, .inr (11, [.int 0, .ref m1, .int m2, .int m3, .int m4, .int m5, .ref m6, .ref m7, .ref m8, .ref m9, .ref m10, .int m11, .int m12, .int m13, .int m14, .int m15, .int m16, .long m17, .int m18, .int m19, .int m20, .ref m21, .ref m22, .int m23, .int m24, .int m25, .int m26, .ref m27, .int m28, .ref m29, .int m30, .int m31, .ref m32, .int m33, .ref m34, .ref m35, .int m36, .int m37, .ref m38, .int m39, .int m40, .int m41, .ref m42, .int m43, .ref m44, .int m45, .int m46, .int m47, .int m48, .int m49, .ref m50, .ref m51, .ref m52, .ref m53])), (m1, .inl (m1t, 940, .inl m1f)), (m6, .inl (m6t, 283, .inl m6f)), (m7, .inl (m7t, 67, .inl m7f)), (m8, .inl (m8t, 135, .inl m8f)), (m9, .inl (m9t, 36, .inr (.inl m9f))), (m10, .inl (m10t, 21, .inr (.inl m10f))), (m21, .inl (m21t, 280, .inl m21f)), (m22, .inl (m22t, 35, .inl m22f)), (m27, .inl (m27t, 4, .inl m27f)), (m29, .inl (m29t, 5, .inl m29f)), (m32, .inl (m32t, 7, .inl m32f)), (m34, .inl (m34t, 25, .inl m34f)), (m35, .inl (m35t, 25, .inl m35f)), (m38, .inl (m38t, 48, .inl m38f)), (m42, .inl (m42t, 4, .inl m42f)), (m44, .inl (m44t, 45, .inl m44f)), (m50, .inl (m50t, 45, .inl m50f)), (m51, .inl (m51t, 566, .inl m51f)), (m52, .inl (m52t, 36, .inr (.inl m52f))), (m53, .inl (m53t, 2, .inl m53f))] := hD
  refine lv_aload_n hx hb dX12_feed_5 rfl (lv_at hl 0 rfl) ?_
  refine va_get (D := D) (ci := 11) (v := .int m2) (C := RX12) (T := TX12) (N := 54) hx hb hts hiX12 hown hK hP 0 rfl rfl 2 (by decide) (hts _ (List.mem_of_getElem? (i := 2) rfl)) (fun _ h9 => h9) rfl dX12_feed_6 ?_
  refine lv_bipush (v := 20) hx hb dX12_feed_9 (by decide) ?_
  refine lv_iadd hx hb dX12_feed_11 ?_
  refine lv_topi (fun y_1 ey_1 => ?_)
  have h_2 : z_in 20 960 y_1 := by rw [ey_1]; exact z_add hm2 (z_lit (x := 20) (a := 20) (b := 20) rfl) rfl rfl
  have ty_1 : y_1.toInt = m2.toInt + 20 := by rw [ey_1]; exact (z_addT hm2 (z_lit (x := 20) (a := 20) (b := 20) rfl) rfl).trans rfl
  refine lv_sipush (v := 940) hx hb dX12_feed_12 (by decide) ?_
  refine lv_icmp_le (tgt := 20) hx hb dX12_feed_15 (by decide) (fun c_3 => ?_) (fun c_3 => ?_)
  · skip
    have h_4 : z_in 20 940 y_1 := z_leL c_3 h_2 (z_lit (x := 940) (a := 940) (b := 940) rfl) rfl
    have h_5 : z_in 0 920 m2 := by have q1 := h_4.1; have q2 := h_4.2; have q3 := hm2.1; have q4 := hm2.2; exact ⟨by omega, by omega⟩
    refine lv_aload_n hx hb dX12_feed_20 rfl (lv_at hl 0 rfl) ?_
    refine lv_iload_n hx hb dX12_feed_21 rfl (lv_at hl 1 rfl) ?_
    have hc9 := (m_four920 l D ad mo 0 m2 m3 m4 m5 m11 m12 m13 m14 m15 m16 m17 m18 m19 m20 m23 m24 m25 m26 m28 m30 m31 m33 m36 m37 m39 m40 m41 m43 m45 m46 m47 m48 m49 m1 m1t m1f m6 m6t m6f m7 m7t m7f m8 m8t m8f m9 m9t m9f m10 m10t m10f m21 m21t m21f m22 m22t m22f m27 m27t m27f m29 m29t m29f m32 m32t m32f m34 m34t m34f m35 m35t m35f m38 m38t m38f m42 m42t m42f m44 m44t m44f m50 m50t m50f m51 m51t m51f m52 m52t m52f m53 m53t m53f i0 h_5 hm3 hm4 hm5 hm11 hm20 hm23 hm26 hm28 hm31 hm33 hm37 hm39 hm41 hm43 hm45 hm46 hm47 hm49 hm6f hm7f hm21f hm22f hm27f hm32f hm34f hm35f hm50f hm51f hm53f)
    refine z_callv (w0 := [(mo, .inr (11, [.int 0, .ref m1, .int m2, .int m3, .int m4, .int m5, .ref m6, .ref m7, .ref m8, .ref m9, .ref m10, .int m11, .int m12, .int m13, .int m14, .int m15, .int m16, .long m17, .int m18, .int m19, .int m20, .ref m21, .ref m22, .int m23, .int m24, .int m25, .int m26, .ref m27, .int m28, .ref m29, .int m30, .int m31, .ref m32, .int m33, .ref m34, .ref m35, .int m36, .int m37, .ref m38, .int m39, .int m40, .int m41, .ref m42, .int m43, .ref m44, .int m45, .int m46, .int m47, .int m48, .int m49, .ref m50, .ref m51, .ref m52, .ref m53])), (m1, .inl (m1t, 940, .inl m1f)), (m6, .inl (m6t, 283, .inl m6f)), (m7, .inl (m7t, 67, .inl m7f)), (m8, .inl (m8t, 135, .inl m8f)), (m9, .inl (m9t, 36, .inr (.inl m9f))), (m10, .inl (m10t, 21, .inr (.inl m10f))), (m21, .inl (m21t, 280, .inl m21f)), (m22, .inl (m22t, 35, .inl m22f)), (m27, .inl (m27t, 4, .inl m27f)), (m29, .inl (m29t, 5, .inl m29f)), (m32, .inl (m32t, 7, .inl m32f)), (m34, .inl (m34t, 25, .inl m34f)), (m35, .inl (m35t, 25, .inl m35f)), (m38, .inl (m38t, 48, .inl m38f)), (m42, .inl (m42t, 4, .inl m42f)), (m44, .inl (m44t, 45, .inl m44f)), (m50, .inl (m50t, 45, .inl m50f)), (m51, .inl (m51t, 566, .inl m51f)), (m52, .inl (m52t, 36, .inr (.inl m52f))), (m53, .inl (m53t, 2, .inl m53f))]) (wr := []) (va_runV (As := [.int i0]) (rest := []) ⟨hx, hb, hml, hown, hts⟩ (hc9 _) (cwV 1 hts gX12_feed_X12_four rfl rfl rfl (by decide +kernel) ⟨Nat.le_of_ble_eq_true rfl, Nat.le_of_ble_eq_true rfl⟩) (z_preV hP hD hK hS hA hE hO [0, 1, 2, 3, 4, 5, 6, 7, 8, 9, 10, 11, 12, 13, 14, 15, 16, 17, 18, 19, 20] [0, 1, 2, 3, 4, 5, 6, 7, 8, 9, 10, 11, 12, 13, 14, 15, 16, 17, 18, 19] rfl (by decide +kernel) rfl 0 11 rfl rfl rfl) rfl rfl hl.1 rfl (lv_room (Nat.le_of_ble_eq_true rfl)) dX12_feed_22 ⟨Nat.le_of_ble_eq_true rfl, Nat.le_of_ble_eq_true rfl⟩) hP hD hK hS hA [0, 1, 2, 3, 4, 5, 6, 7, 8, 9, 10, 11, 12, 13, 14, 15, 16, 17, 18, 19, 20] [] rfl rfl (by decide +kernel) (by decide +kernel) (fun u9 H locs hw hP hD hK hS => ?_)
    obtain ⟨x_6, f_8, h_7, h_9, h_10, rfl⟩ := hw
    have hP : va_P D vwCl [(mo, .inr (11, [.int 0, .ref m1, .int x_6, .int m3, .int m4, .int m5, .ref m6, .ref m7, .ref m8, .ref m9, .ref m10, .int m11, .int m12, .int m13, .int m14, .int m15, .int m16, .long m17, .int m18, .int m19, .int m20, .ref m21, .ref m22, .int m23, .int m24, .int m25, .int m26, .ref m27, .int m28, .ref m29, .int m30, .int m31, .ref m32, .int m33, .ref m34, .ref m35, .int m36, .int m37, .ref m38, .int m39, .int m40, .int m41, .ref m42, .int m43, .ref m44, .int m45, .int m46, .int m47, .int m48, .int m49, .ref m50, .ref m51, .ref m52, .ref m53])), (m1, .inl (m1t, 940, .inl f_8)), (m6, .inl (m6t, 283, .inl m6f)), (m7, .inl (m7t, 67, .inl m7f)), (m8, .inl (m8t, 135, .inl m8f)), (m9, .inl (m9t, 36, .inr (.inl m9f))), (m10, .inl (m10t, 21, .inr (.inl m10f))), (m21, .inl (m21t, 280, .inl m21f)), (m22, .inl (m22t, 35, .inl m22f)), (m27, .inl (m27t, 4, .inl m27f)), (m29, .inl (m29t, 5, .inl m29f)), (m32, .inl (m32t, 7, .inl m32f)), (m34, .inl (m34t, 25, .inl m34f)), (m35, .inl (m35t, 25, .inl m35f)), (m38, .inl (m38t, 48, .inl m38f)), (m42, .inl (m42t, 4, .inl m42f)), (m44, .inl (m44t, 45, .inl m44f)), (m50, .inl (m50t, 45, .inl m50f)), (m51, .inl (m51t, 566, .inl m51f)), (m52, .inl (m52t, 36, .inr (.inl m52f))), (m53, .inl (m53t, 2, .inl m53f))] H := hP
    have hD : va_D A [(mo, .inr (11, [.int 0, .ref m1, .int x_6, .int m3, .int m4, .int m5, .ref m6, .ref m7, .ref m8, .ref m9, .ref m10, .int m11, .int m12, .int m13, .int m14, .int m15, .int m16, .long m17, .int m18, .int m19, .int m20, .ref m21, .ref m22, .int m23, .int m24, .int m25, .int m26, .ref m27, .int m28, .ref m29, .int m30, .int m31, .ref m32, .int m33, .ref m34, .ref m35, .int m36, .int m37, .ref m38, .int m39, .int m40, .int m41, .ref m42, .int m43, .ref m44, .int m45, .int m46, .int m47, .int m48, .int m49, .ref m50, .ref m51, .ref m52, .ref m53])), (m1, .inl (m1t, 940, .inl f_8)), (m6, .inl (m6t, 283, .inl m6f)), (m7, .inl (m7t, 67, .inl m7f)), (m8, .inl (m8t, 135, .inl m8f)), (m9, .inl (m9t, 36, .inr (.inl m9f))), (m10, .inl (m10t, 21, .inr (.inl m10f))), (m21, .inl (m21t, 280, .inl m21f)), (m22, .inl (m22t, 35, .inl m22f)), (m27, .inl (m27t, 4, .inl m27f)), (m29, .inl (m29t, 5, .inl m29f)), (m32, .inl (m32t, 7, .inl m32f)), (m34, .inl (m34t, 25, .inl m34f)), (m35, .inl (m35t, 25, .inl m35f)), (m38, .inl (m38t, 48, .inl m38f)), (m42, .inl (m42t, 4, .inl m42f)), (m44, .inl (m44t, 45, .inl m44f)), (m50, .inl (m50t, 45, .inl m50f)), (m51, .inl (m51t, 566, .inl m51f)), (m52, .inl (m52t, 36, .inr (.inl m52f))), (m53, .inl (m53t, 2, .inl m53f))] := hD
    have hK : va_K D vwCl [(m1t, .byte), (m6t, .int), (m7t, .int), (m8t, .int), (m9t, .long), (m10t, .long), (m21t, .int), (m22t, .int), (m27t, .int), (m29t, .int), (m32t, .int), (m34t, .boolean), (m35t, .boolean), (m38t, .byte), (m42t, .int), (m44t, .int), (m50t, .boolean), (m51t, .int), (m52t, .long), (m53t, .boolean)] s := hK
    refine W.cs (cells' := 0) (slots' := 0) rfl rfl ?_
    refine lv_aload_n hx hb dX12_feed_25 rfl (lv_at hl 0 rfl) ?_
    refine lv_iload_n hx hb dX12_feed_26 rfl (lv_at hl 2 rfl) ?_
    have hc9 := (m_four924 l D ad mo 0 x_6 m3 m4 m5 m11 m12 m13 m14 m15 m16 m17 m18 m19 m20 m23 m24 m25 m26 m28 m30 m31 m33 m36 m37 m39 m40 m41 m43 m45 m46 m47 m48 m49 m1 m1t f_8 m6 m6t m6f m7 m7t m7f m8 m8t m8f m9 m9t m9f m10 m10t m10f m21 m21t m21f m22 m22t m22f m27 m27t m27f m29 m29t m29f m32 m32t m32f m34 m34t m34f m35 m35t m35f m38 m38t m38f m42 m42t m42f m44 m44t m44f m50 m50t m50f m51 m51t m51f m52 m52t m52f m53 m53t m53f i1 (z_w (c := 0) (d := 924) h_7 rfl) hm3 hm4 hm5 hm11 hm20 hm23 hm26 hm28 hm31 hm33 hm37 hm39 hm41 hm43 hm45 hm46 hm47 hm49 hm6f hm7f hm21f hm22f hm27f hm32f hm34f hm35f hm50f hm51f hm53f)
    refine z_callv (w0 := [(mo, .inr (11, [.int 0, .ref m1, .int x_6, .int m3, .int m4, .int m5, .ref m6, .ref m7, .ref m8, .ref m9, .ref m10, .int m11, .int m12, .int m13, .int m14, .int m15, .int m16, .long m17, .int m18, .int m19, .int m20, .ref m21, .ref m22, .int m23, .int m24, .int m25, .int m26, .ref m27, .int m28, .ref m29, .int m30, .int m31, .ref m32, .int m33, .ref m34, .ref m35, .int m36, .int m37, .ref m38, .int m39, .int m40, .int m41, .ref m42, .int m43, .ref m44, .int m45, .int m46, .int m47, .int m48, .int m49, .ref m50, .ref m51, .ref m52, .ref m53])), (m1, .inl (m1t, 940, .inl f_8)), (m6, .inl (m6t, 283, .inl m6f)), (m7, .inl (m7t, 67, .inl m7f)), (m8, .inl (m8t, 135, .inl m8f)), (m9, .inl (m9t, 36, .inr (.inl m9f))), (m10, .inl (m10t, 21, .inr (.inl m10f))), (m21, .inl (m21t, 280, .inl m21f)), (m22, .inl (m22t, 35, .inl m22f)), (m27, .inl (m27t, 4, .inl m27f)), (m29, .inl (m29t, 5, .inl m29f)), (m32, .inl (m32t, 7, .inl m32f)), (m34, .inl (m34t, 25, .inl m34f)), (m35, .inl (m35t, 25, .inl m35f)), (m38, .inl (m38t, 48, .inl m38f)), (m42, .inl (m42t, 4, .inl m42f)), (m44, .inl (m44t, 45, .inl m44f)), (m50, .inl (m50t, 45, .inl m50f)), (m51, .inl (m51t, 566, .inl m51f)), (m52, .inl (m52t, 36, .inr (.inl m52f))), (m53, .inl (m53t, 2, .inl m53f))]) (wr := []) (va_runV (As := [.int i1]) (rest := []) ⟨hx, hb, hml, hown, hts⟩ (hc9 _) (cwV 1 hts gX12_feed_X12_four rfl rfl rfl (by decide +kernel) ⟨Nat.le_of_ble_eq_true rfl, Nat.le_of_ble_eq_true rfl⟩) (z_preV hP hD hK hS hA hE hO [0, 1, 2, 3, 4, 5, 6, 7, 8, 9, 10, 11, 12, 13, 14, 15, 16, 17, 18, 19, 20] [0, 1, 2, 3, 4, 5, 6, 7, 8, 9, 10, 11, 12, 13, 14, 15, 16, 17, 18, 19] rfl (by decide +kernel) rfl 0 11 rfl rfl rfl) rfl rfl hl.1 rfl (lv_room (Nat.le_of_ble_eq_true rfl)) dX12_feed_27 ⟨Nat.le_of_ble_eq_true rfl, Nat.le_of_ble_eq_true rfl⟩) hP hD hK hS hA [0, 1, 2, 3, 4, 5, 6, 7, 8, 9, 10, 11, 12, 13, 14, 15, 16, 17, 18, 19, 20] [] rfl rfl (by decide +kernel) (by decide +kernel) (fun u9 H locs hw hP hD hK hS => ?_)
    obtain ⟨x_11, f_13, h_12, h_14, h_15, rfl⟩ := hw
    have hP : va_P D vwCl [(mo, .inr (11, [.int 0, .ref m1, .int x_11, .int m3, .int m4, .int m5, .ref m6, .ref m7, .ref m8, .ref m9, .ref m10, .int m11, .int m12, .int m13, .int m14, .int m15, .int m16, .long m17, .int m18, .int m19, .int m20, .ref m21, .ref m22, .int m23, .int m24, .int m25, .int m26, .ref m27, .int m28, .ref m29, .int m30, .int m31, .ref m32, .int m33, .ref m34, .ref m35, .int m36, .int m37, .ref m38, .int m39, .int m40, .int m41, .ref m42, .int m43, .ref m44, .int m45, .int m46, .int m47, .int m48, .int m49, .ref m50, .ref m51, .ref m52, .ref m53])), (m1, .inl (m1t, 940, .inl f_13)), (m6, .inl (m6t, 283, .inl m6f)), (m7, .inl (m7t, 67, .inl m7f)), (m8, .inl (m8t, 135, .inl m8f)), (m9, .inl (m9t, 36, .inr (.inl m9f))), (m10, .inl (m10t, 21, .inr (.inl m10f))), (m21, .inl (m21t, 280, .inl m21f)), (m22, .inl (m22t, 35, .inl m22f)), (m27, .inl (m27t, 4, .inl m27f)), (m29, .inl (m29t, 5, .inl m29f)), (m32, .inl (m32t, 7, .inl m32f)), (m34, .inl (m34t, 25, .inl m34f)), (m35, .inl (m35t, 25, .inl m35f)), (m38, .inl (m38t, 48, .inl m38f)), (m42, .inl (m42t, 4, .inl m42f)), (m44, .inl (m44t, 45, .inl m44f)), (m50, .inl (m50t, 45, .inl m50f)), (m51, .inl (m51t, 566, .inl m51f)), (m52, .inl (m52t, 36, .inr (.inl m52f))), (m53, .inl (m53t, 2, .inl m53f))] H := hP
    have hD : va_D A [(mo, .inr (11, [.int 0, .ref m1, .int x_11, .int m3, .int m4, .int m5, .ref m6, .ref m7, .ref m8, .ref m9, .ref m10, .int m11, .int m12, .int m13, .int m14, .int m15, .int m16, .long m17, .int m18, .int m19, .int m20, .ref m21, .ref m22, .int m23, .int m24, .int m25, .int m26, .ref m27, .int m28, .ref m29, .int m30, .int m31, .ref m32, .int m33, .ref m34, .ref m35, .int m36, .int m37, .ref m38, .int m39, .int m40, .int m41, .ref m42, .int m43, .ref m44, .int m45, .int m46, .int m47, .int m48, .int m49, .ref m50, .ref m51, .ref m52, .ref m53])), (m1, .inl (m1t, 940, .inl f_13)), (m6, .inl (m6t, 283, .inl m6f)), (m7, .inl (m7t, 67, .inl m7f)), (m8, .inl (m8t, 135, .inl m8f)), (m9, .inl (m9t, 36, .inr (.inl m9f))), (m10, .inl (m10t, 21, .inr (.inl m10f))), (m21, .inl (m21t, 280, .inl m21f)), (m22, .inl (m22t, 35, .inl m22f)), (m27, .inl (m27t, 4, .inl m27f)), (m29, .inl (m29t, 5, .inl m29f)), (m32, .inl (m32t, 7, .inl m32f)), (m34, .inl (m34t, 25, .inl m34f)), (m35, .inl (m35t, 25, .inl m35f)), (m38, .inl (m38t, 48, .inl m38f)), (m42, .inl (m42t, 4, .inl m42f)), (m44, .inl (m44t, 45, .inl m44f)), (m50, .inl (m50t, 45, .inl m50f)), (m51, .inl (m51t, 566, .inl m51f)), (m52, .inl (m52t, 36, .inr (.inl m52f))), (m53, .inl (m53t, 2, .inl m53f))] := hD
    have hK : va_K D vwCl [(m1t, .byte), (m6t, .int), (m7t, .int), (m8t, .int), (m9t, .long), (m10t, .long), (m21t, .int), (m22t, .int), (m27t, .int), (m29t, .int), (m32t, .int), (m34t, .boolean), (m35t, .boolean), (m38t, .byte), (m42t, .int), (m44t, .int), (m50t, .boolean), (m51t, .int), (m52t, .long), (m53t, .boolean)] s := hK
    refine W.cs (cells' := 0) (slots' := 0) rfl rfl ?_
    refine lv_aload_n hx hb dX12_feed_30 rfl (lv_at hl 0 rfl) ?_
    refine lv_iload_n hx hb dX12_feed_31 rfl (lv_at hl 3 rfl) ?_
    have hc9 := (m_four928 l D ad mo 0 x_11 m3 m4 m5 m11 m12 m13 m14 m15 m16 m17 m18 m19 m20 m23 m24 m25 m26 m28 m30 m31 m33 m36 m37 m39 m40 m41 m43 m45 m46 m47 m48 m49 m1 m1t f_13 m6 m6t m6f m7 m7t m7f m8 m8t m8f m9 m9t m9f m10 m10t m10f m21 m21t m21f m22 m22t m22f m27 m27t m27f m29 m29t m29f m32 m32t m32f m34 m34t m34f m35 m35t m35f m38 m38t m38f m42 m42t m42f m44 m44t m44f m50 m50t m50f m51 m51t m51f m52 m52t m52f m53 m53t m53f i2 (z_w (c := 0) (d := 928) h_12 rfl) hm3 hm4 hm5 hm11 hm20 hm23 hm26 hm28 hm31 hm33 hm37 hm39 hm41 hm43 hm45 hm46 hm47 hm49 hm6f hm7f hm21f hm22f hm27f hm32f hm34f hm35f hm50f hm51f hm53f)
    refine z_callv (w0 := [(mo, .inr (11, [.int 0, .ref m1, .int x_11, .int m3, .int m4, .int m5, .ref m6, .ref m7, .ref m8, .ref m9, .ref m10, .int m11, .int m12, .int m13, .int m14, .int m15, .int m16, .long m17, .int m18, .int m19, .int m20, .ref m21, .ref m22, .int m23, .int m24, .int m25, .int m26, .ref m27, .int m28, .ref m29, .int m30, .int m31, .ref m32, .int m33, .ref m34, .ref m35, .int m36, .int m37, .ref m38, .int m39, .int m40, .int m41, .ref m42, .int m43, .ref m44, .int m45, .int m46, .int m47, .int m48, .int m49, .ref m50, .ref m51, .ref m52, .ref m53])), (m1, .inl (m1t, 940, .inl f_13)), (m6, .inl (m6t, 283, .inl m6f)), (m7, .inl (m7t, 67, .inl m7f)), (m8, .inl (m8t, 135, .inl m8f)), (m9, .inl (m9t, 36, .inr (.inl m9f))), (m10, .inl (m10t, 21, .inr (.inl m10f))), (m21, .inl (m21t, 280, .inl m21f)), (m22, .inl (m22t, 35, .inl m22f)), (m27, .inl (m27t, 4, .inl m27f)), (m29, .inl (m29t, 5, .inl m29f)), (m32, .inl (m32t, 7, .inl m32f)), (m34, .inl (m34t, 25, .inl m34f)), (m35, .inl (m35t, 25, .inl m35f)), (m38, .inl (m38t, 48, .inl m38f)), (m42, .inl (m42t, 4, .inl m42f)), (m44, .inl (m44t, 45, .inl m44f)), (m50, .inl (m50t, 45, .inl m50f)), (m51, .inl (m51t, 566, .inl m51f)), (m52, .inl (m52t, 36, .inr (.inl m52f))), (m53, .inl (m53t, 2, .inl m53f))]) (wr := []) (va_runV (As := [.int i2]) (rest := []) ⟨hx, hb, hml, hown, hts⟩ (hc9 _) (cwV 1 hts gX12_feed_X12_four rfl rfl rfl (by decide +kernel) ⟨Nat.le_of_ble_eq_true rfl, Nat.le_of_ble_eq_true rfl⟩) (z_preV hP hD hK hS hA hE hO [0, 1, 2, 3, 4, 5, 6, 7, 8, 9, 10, 11, 12, 13, 14, 15, 16, 17, 18, 19, 20] [0, 1, 2, 3, 4, 5, 6, 7, 8, 9, 10, 11, 12, 13, 14, 15, 16, 17, 18, 19] rfl (by decide +kernel) rfl 0 11 rfl rfl rfl) rfl rfl hl.1 rfl (lv_room (Nat.le_of_ble_eq_true rfl)) dX12_feed_32 ⟨Nat.le_of_ble_eq_true rfl, Nat.le_of_ble_eq_true rfl⟩) hP hD hK hS hA [0, 1, 2, 3, 4, 5, 6, 7, 8, 9, 10, 11, 12, 13, 14, 15, 16, 17, 18, 19, 20] [] rfl rfl (by decide +kernel) (by decide +kernel) (fun u9 H locs hw hP hD hK hS => ?_)
    obtain ⟨x_16, f_18, h_17, h_19, h_20, rfl⟩ := hw
    have hP : va_P D vwCl [(mo, .inr (11, [.int 0, .ref m1, .int x_16, .int m3, .int m4, .int m5, .ref m6, .ref m7, .ref m8, .ref m9, .ref m10, .int m11, .int m12, .int m13, .int m14, .int m15, .int m16, .long m17, .int m18, .int m19, .int m20, .ref m21, .ref m22, .int m23, .int m24, .int m25, .int m26, .ref m27, .int m28, .ref m29, .int m30, .int m31, .ref m32, .int m33, .ref m34, .ref m35, .int m36, .int m37, .ref m38, .int m39, .int m40, .int m41, .ref m42, .int m43, .ref m44, .int m45, .int m46, .int m47, .int m48, .int m49, .ref m50, .ref m51, .ref m52, .ref m53])), (m1, .inl (m1t, 940, .inl f_18)), (m6, .inl (m6t, 283, .inl m6f)), (m7, .inl (m7t, 67, .inl m7f)), (m8, .inl (m8t, 135, .inl m8f)), (m9, .inl (m9t, 36, .inr (.inl m9f))), (m10, .inl (m10t, 21, .inr (.inl m10f))), (m21, .inl (m21t, 280, .inl m21f)), (m22, .inl (m22t, 35, .inl m22f)), (m27, .inl (m27t, 4, .inl m27f)), (m29, .inl (m29t, 5, .inl m29f)), (m32, .inl (m32t, 7, .inl m32f)), (m34, .inl (m34t, 25, .inl m34f)), (m35, .inl (m35t, 25, .inl m35f)), (m38, .inl (m38t, 48, .inl m38f)), (m42, .inl (m42t, 4, .inl m42f)), (m44, .inl (m44t, 45, .inl m44f)), (m50, .inl (m50t, 45, .inl m50f)), (m51, .inl (m51t, 566, .inl m51f)), (m52, .inl (m52t, 36, .inr (.inl m52f))), (m53, .inl (m53t, 2, .inl m53f))] H := hP
    have hD : va_D A [(mo, .inr (11, [.int 0, .ref m1, .int x_16, .int m3, .int m4, .int m5, .ref m6, .ref m7, .ref m8, .ref m9, .ref m10, .int m11, .int m12, .int m13, .int m14, .int m15, .int m16, .long m17, .int m18, .int m19, .int m20, .ref m21, .ref m22, .int m23, .int m24, .int m25, .int m26, .ref m27, .int m28, .ref m29, .int m30, .int m31, .ref m32, .int m33, .ref m34, .ref m35, .int m36, .int m37, .ref m38, .int m39, .int m40, .int m41, .ref m42, .int m43, .ref m44, .int m45, .int m46, .int m47, .int m48, .int m49, .ref m50, .ref m51, .ref m52, .ref m53])), (m1, .inl (m1t, 940, .inl f_18)), (m6, .inl (m6t, 283, .inl m6f)), (m7, .inl (m7t, 67, .inl m7f)), (m8, .inl (m8t, 135, .inl m8f)), (m9, .inl (m9t, 36, .inr (.inl m9f))), (m10, .inl (m10t, 21, .inr (.inl m10f))), (m21, .inl (m21t, 280, .inl m21f)), (m22, .inl (m22t, 35, .inl m22f)), (m27, .inl (m27t, 4, .inl m27f)), (m29, .inl (m29t, 5, .inl m29f)), (m32, .inl (m32t, 7, .inl m32f)), (m34, .inl (m34t, 25, .inl m34f)), (m35, .inl (m35t, 25, .inl m35f)), (m38, .inl (m38t, 48, .inl m38f)), (m42, .inl (m42t, 4, .inl m42f)), (m44, .inl (m44t, 45, .inl m44f)), (m50, .inl (m50t, 45, .inl m50f)), (m51, .inl (m51t, 566, .inl m51f)), (m52, .inl (m52t, 36, .inr (.inl m52f))), (m53, .inl (m53t, 2, .inl m53f))] := hD
    have hK : va_K D vwCl [(m1t, .byte), (m6t, .int), (m7t, .int), (m8t, .int), (m9t, .long), (m10t, .long), (m21t, .int), (m22t, .int), (m27t, .int), (m29t, .int), (m32t, .int), (m34t, .boolean), (m35t, .boolean), (m38t, .byte), (m42t, .int), (m44t, .int), (m50t, .boolean), (m51t, .int), (m52t, .long), (m53t, .boolean)] s := hK
    refine W.cs (cells' := 0) (slots' := 0) rfl rfl ?_
    refine lv_aload_n hx hb dX12_feed_35 rfl (lv_at hl 0 rfl) ?_
    refine lv_iload hx hb dX12_feed_36 (lv_at hl 4 rfl) ?_
    have hc9 := (m_four932 l D ad mo 0 x_16 m3 m4 m5 m11 m12 m13 m14 m15 m16 m17 m18 m19 m20 m23 m24 m25 m26 m28 m30 m31 m33 m36 m37 m39 m40 m41 m43 m45 m46 m47 m48 m49 m1 m1t f_18 m6 m6t m6f m7 m7t m7f m8 m8t m8f m9 m9t m9f m10 m10t m10f m21 m21t m21f m22 m22t m22f m27 m27t m27f m29 m29t m29f m32 m32t m32f m34 m34t m34f m35 m35t m35f m38 m38t m38f m42 m42t m42f m44 m44t m44f m50 m50t m50f m51 m51t m51f m52 m52t m52f m53 m53t m53f i3 (z_w (c := 0) (d := 932) h_17 rfl) hm3 hm4 hm5 hm11 hm20 hm23 hm26 hm28 hm31 hm33 hm37 hm39 hm41 hm43 hm45 hm46 hm47 hm49 hm6f hm7f hm21f hm22f hm27f hm32f hm34f hm35f hm50f hm51f hm53f)
    refine z_callv (w0 := [(mo, .inr (11, [.int 0, .ref m1, .int x_16, .int m3, .int m4, .int m5, .ref m6, .ref m7, .ref m8, .ref m9, .ref m10, .int m11, .int m12, .int m13, .int m14, .int m15, .int m16, .long m17, .int m18, .int m19, .int m20, .ref m21, .ref m22, .int m23, .int m24, .int m25, .int m26, .ref m27, .int m28, .ref m29, .int m30, .int m31, .ref m32, .int m33, .ref m34, .ref m35, .int m36, .int m37, .ref m38, .int m39, .int m40, .int m41, .ref m42, .int m43, .ref m44, .int m45, .int m46, .int m47, .int m48, .int m49, .ref m50, .ref m51, .ref m52, .ref m53])), (m1, .inl (m1t, 940, .inl f_18)), (m6, .inl (m6t, 283, .inl m6f)), (m7, .inl (m7t, 67, .inl m7f)), (m8, .inl (m8t, 135, .inl m8f)), (m9, .inl (m9t, 36, .inr (.inl m9f))), (m10, .inl (m10t, 21, .inr (.inl m10f))), (m21, .inl (m21t, 280, .inl m21f)), (m22, .inl (m22t, 35, .inl m22f)), (m27, .inl (m27t, 4, .inl m27f)), (m29, .inl (m29t, 5, .inl m29f)), (m32, .inl (m32t, 7, .inl m32f)), (m34, .inl (m34t, 25, .inl m34f)), (m35, .inl (m35t, 25, .inl m35f)), (m38, .inl (m38t, 48, .inl m38f)), (m42, .inl (m42t, 4, .inl m42f)), (m44, .inl (m44t, 45, .inl m44f)), (m50, .inl (m50t, 45, .inl m50f)), (m51, .inl (m51t, 566, .inl m51f)), (m52, .inl (m52t, 36, .inr (.inl m52f))), (m53, .inl (m53t, 2, .inl m53f))]) (wr := []) (va_runV (As := [.int i3]) (rest := []) ⟨hx, hb, hml, hown, hts⟩ (hc9 _) (cwV 1 hts gX12_feed_X12_four rfl rfl rfl (by decide +kernel) ⟨Nat.le_of_ble_eq_true rfl, Nat.le_of_ble_eq_true rfl⟩) (z_preV hP hD hK hS hA hE hO [0, 1, 2, 3, 4, 5, 6, 7, 8, 9, 10, 11, 12, 13, 14, 15, 16, 17, 18, 19, 20] [0, 1, 2, 3, 4, 5, 6, 7, 8, 9, 10, 11, 12, 13, 14, 15, 16, 17, 18, 19] rfl (by decide +kernel) rfl 0 11 rfl rfl rfl) rfl rfl hl.1 rfl (lv_room (Nat.le_of_ble_eq_true rfl)) dX12_feed_38 ⟨Nat.le_of_ble_eq_true rfl, Nat.le_of_ble_eq_true rfl⟩) hP hD hK hS hA [0, 1, 2, 3, 4, 5, 6, 7, 8, 9, 10, 11, 12, 13, 14, 15, 16, 17, 18, 19, 20] [] rfl rfl (by decide +kernel) (by decide +kernel) (fun u9 H locs hw hP hD hK hS => ?_)
    obtain ⟨x_21, f_23, h_22, h_24, h_25, rfl⟩ := hw
    have hP : va_P D vwCl [(mo, .inr (11, [.int 0, .ref m1, .int x_21, .int m3, .int m4, .int m5, .ref m6, .ref m7, .ref m8, .ref m9, .ref m10, .int m11, .int m12, .int m13, .int m14, .int m15, .int m16, .long m17, .int m18, .int m19, .int m20, .ref m21, .ref m22, .int m23, .int m24, .int m25, .int m26, .ref m27, .int m28, .ref m29, .int m30, .int m31, .ref m32, .int m33, .ref m34, .ref m35, .int m36, .int m37, .ref m38, .int m39, .int m40, .int m41, .ref m42, .int m43, .ref m44, .int m45, .int m46, .int m47, .int m48, .int m49, .ref m50, .ref m51, .ref m52, .ref m53])), (m1, .inl (m1t, 940, .inl f_23)), (m6, .inl (m6t, 283, .inl m6f)), (m7, .inl (m7t, 67, .inl m7f)), (m8, .inl (m8t, 135, .inl m8f)), (m9, .inl (m9t, 36, .inr (.inl m9f))), (m10, .inl (m10t, 21, .inr (.inl m10f))), (m21, .inl (m21t, 280, .inl m21f)), (m22, .inl (m22t, 35, .inl m22f)), (m27, .inl (m27t, 4, .inl m27f)), (m29, .inl (m29t, 5, .inl m29f)), (m32, .inl (m32t, 7, .inl m32f)), (m34, .inl (m34t, 25, .inl m34f)), (m35, .inl (m35t, 25, .inl m35f)), (m38, .inl (m38t, 48, .inl m38f)), (m42, .inl (m42t, 4, .inl m42f)), (m44, .inl (m44t, 45, .inl m44f)), (m50, .inl (m50t, 45, .inl m50f)), (m51, .inl (m51t, 566, .inl m51f)), (m52, .inl (m52t, 36, .inr (.inl m52f))), (m53, .inl (m53t, 2, .inl m53f))] H := hP
    have hD : va_D A [(mo, .inr (11, [.int 0, .ref m1, .int x_21, .int m3, .int m4, .int m5, .ref m6, .ref m7, .ref m8, .ref m9, .ref m10, .int m11, .int m12, .int m13, .int m14, .int m15, .int m16, .long m17, .int m18, .int m19, .int m20, .ref m21, .ref m22, .int m23, .int m24, .int m25, .int m26, .ref m27, .int m28, .ref m29, .int m30, .int m31, .ref m32, .int m33, .ref m34, .ref m35, .int m36, .int m37, .ref m38, .int m39, .int m40, .int m41, .ref m42, .int m43, .ref m44, .int m45, .int m46, .int m47, .int m48, .int m49, .ref m50, .ref m51, .ref m52, .ref m53])), (m1, .inl (m1t, 940, .inl f_23)), (m6, .inl (m6t, 283, .inl m6f)), (m7, .inl (m7t, 67, .inl m7f)), (m8, .inl (m8t, 135, .inl m8f)), (m9, .inl (m9t, 36, .inr (.inl m9f))), (m10, .inl (m10t, 21, .inr (.inl m10f))), (m21, .inl (m21t, 280, .inl m21f)), (m22, .inl (m22t, 35, .inl m22f)), (m27, .inl (m27t, 4, .inl m27f)), (m29, .inl (m29t, 5, .inl m29f)), (m32, .inl (m32t, 7, .inl m32f)), (m34, .inl (m34t, 25, .inl m34f)), (m35, .inl (m35t, 25, .inl m35f)), (m38, .inl (m38t, 48, .inl m38f)), (m42, .inl (m42t, 4, .inl m42f)), (m44, .inl (m44t, 45, .inl m44f)), (m50, .inl (m50t, 45, .inl m50f)), (m51, .inl (m51t, 566, .inl m51f)), (m52, .inl (m52t, 36, .inr (.inl m52f))), (m53, .inl (m53t, 2, .inl m53f))] := hD
    have hK : va_K D vwCl [(m1t, .byte), (m6t, .int), (m7t, .int), (m8t, .int), (m9t, .long), (m10t, .long), (m21t, .int), (m22t, .int), (m27t, .int), (m29t, .int), (m32t, .int), (m34t, .boolean), (m35t, .boolean), (m38t, .byte), (m42t, .int), (m44t, .int), (m50t, .boolean), (m51t, .int), (m52t, .long), (m53t, .boolean)] s := hK
    refine W.cs (cells' := 0) (slots' := 0) rfl rfl ?_
    refine lv_aload_n hx hb dX12_feed_41 rfl (lv_at hl 0 rfl) ?_
    refine lv_iload hx hb dX12_feed_42 (lv_at hl 5 rfl) ?_
    have hc9 := (m_four936 l D ad mo 0 x_21 m3 m4 m5 m11 m12 m13 m14 m15 m16 m17 m18 m19 m20 m23 m24 m25 m26 m28 m30 m31 m33 m36 m37 m39 m40 m41 m43 m45 m46 m47 m48 m49 m1 m1t f_23 m6 m6t m6f m7 m7t m7f m8 m8t m8f m9 m9t m9f m10 m10t m10f m21 m21t m21f m22 m22t m22f m27 m27t m27f m29 m29t m29f m32 m32t m32f m34 m34t m34f m35 m35t m35f m38 m38t m38f m42 m42t m42f m44 m44t m44f m50 m50t m50f m51 m51t m51f m52 m52t m52f m53 m53t m53f i4 (z_w (c := 0) (d := 936) h_22 rfl) hm3 hm4 hm5 hm11 hm20 hm23 hm26 hm28 hm31 hm33 hm37 hm39 hm41 hm43 hm45 hm46 hm47 hm49 hm6f hm7f hm21f hm22f hm27f hm32f hm34f hm35f hm50f hm51f hm53f)
    refine z_callv (w0 := [(mo, .inr (11, [.int 0, .ref m1, .int x_21, .int m3, .int m4, .int m5, .ref m6, .ref m7, .ref m8, .ref m9, .ref m10, .int m11, .int m12, .int m13, .int m14, .int m15, .int m16, .long m17, .int m18, .int m19, .int m20, .ref m21, .ref m22, .int m23, .int m24, .int m25, .int m26, .ref m27, .int m28, .ref m29, .int m30, .int m31, .ref m32, .int m33, .ref m34, .ref m35, .int m36, .int m37, .ref m38, .int m39, .int m40, .int m41, .ref m42, .int m43, .ref m44, .int m45, .int m46, .int m47, .int m48, .int m49, .ref m50, .ref m51, .ref m52, .ref m53])), (m1, .inl (m1t, 940, .inl f_23)), (m6, .inl (m6t, 283, .inl m6f)), (m7, .inl (m7t, 67, .inl m7f)), (m8, .inl (m8t, 135, .inl m8f)), (m9, .inl (m9t, 36, .inr (.inl m9f))), (m10, .inl (m10t, 21, .inr (.inl m10f))), (m21, .inl (m21t, 280, .inl m21f)), (m22, .inl (m22t, 35, .inl m22f)), (m27, .inl (m27t, 4, .inl m27f)), (m29, .inl (m29t, 5, .inl m29f)), (m32, .inl (m32t, 7, .inl m32f)), (m34, .inl (m34t, 25, .inl m34f)), (m35, .inl (m35t, 25, .inl m35f)), (m38, .inl (m38t, 48, .inl m38f)), (m42, .inl (m42t, 4, .inl m42f)), (m44, .inl (m44t, 45, .inl m44f)), (m50, .inl (m50t, 45, .inl m50f)), (m51, .inl (m51t, 566, .inl m51f)), (m52, .inl (m52t, 36, .inr (.inl m52f))), (m53, .inl (m53t, 2, .inl m53f))]) (wr := []) (va_runV (As := [.int i4]) (rest := []) ⟨hx, hb, hml, hown, hts⟩ (hc9 _) (cwV 1 hts gX12_feed_X12_four rfl rfl rfl (by decide +kernel) ⟨Nat.le_of_ble_eq_true rfl, Nat.le_of_ble_eq_true rfl⟩) (z_preV hP hD hK hS hA hE hO [0, 1, 2, 3, 4, 5, 6, 7, 8, 9, 10, 11, 12, 13, 14, 15, 16, 17, 18, 19, 20] [0, 1, 2, 3, 4, 5, 6, 7, 8, 9, 10, 11, 12, 13, 14, 15, 16, 17, 18, 19] rfl (by decide +kernel) rfl 0 11 rfl rfl rfl) rfl rfl hl.1 rfl (lv_room (Nat.le_of_ble_eq_true rfl)) dX12_feed_44 ⟨Nat.le_of_ble_eq_true rfl, Nat.le_of_ble_eq_true rfl⟩) hP hD hK hS hA [0, 1, 2, 3, 4, 5, 6, 7, 8, 9, 10, 11, 12, 13, 14, 15, 16, 17, 18, 19, 20] [] rfl rfl (by decide +kernel) (by decide +kernel) (fun u9 H locs hw hP hD hK hS => ?_)
    obtain ⟨x_26, f_28, h_27, h_29, h_30, rfl⟩ := hw
    have hP : va_P D vwCl [(mo, .inr (11, [.int 0, .ref m1, .int x_26, .int m3, .int m4, .int m5, .ref m6, .ref m7, .ref m8, .ref m9, .ref m10, .int m11, .int m12, .int m13, .int m14, .int m15, .int m16, .long m17, .int m18, .int m19, .int m20, .ref m21, .ref m22, .int m23, .int m24, .int m25, .int m26, .ref m27, .int m28, .ref m29, .int m30, .int m31, .ref m32, .int m33, .ref m34, .ref m35, .int m36, .int m37, .ref m38, .int m39, .int m40, .int m41, .ref m42, .int m43, .ref m44, .int m45, .int m46, .int m47, .int m48, .int m49, .ref m50, .ref m51, .ref m52, .ref m53])), (m1, .inl (m1t, 940, .inl f_28)), (m6, .inl (m6t, 283, .inl m6f)), (m7, .inl (m7t, 67, .inl m7f)), (m8, .inl (m8t, 135, .inl m8f)), (m9, .inl (m9t, 36, .inr (.inl m9f))), (m10, .inl (m10t, 21, .inr (.inl m10f))), (m21, .inl (m21t, 280, .inl m21f)), (m22, .inl (m22t, 35, .inl m22f)), (m27, .inl (m27t, 4, .inl m27f)), (m29, .inl (m29t, 5, .inl m29f)), (m32, .inl (m32t, 7, .inl m32f)), (m34, .inl (m34t, 25, .inl m34f)), (m35, .inl (m35t, 25, .inl m35f)), (m38, .inl (m38t, 48, .inl m38f)), (m42, .inl (m42t, 4, .inl m42f)), (m44, .inl (m44t, 45, .inl m44f)), (m50, .inl (m50t, 45, .inl m50f)), (m51, .inl (m51t, 566, .inl m51f)), (m52, .inl (m52t, 36, .inr (.inl m52f))), (m53, .inl (m53t, 2, .inl m53f))] H := hP
    have hD : va_D A [(mo, .inr (11, [.int 0, .ref m1, .int x_26, .int m3, .int m4, .int m5, .ref m6, .ref m7, .ref m8, .ref m9, .ref m10, .int m11, .int m12, .int m13, .int m14, .int m15, .int m16, .long m17, .int m18, .int m19, .int m20, .ref m21, .ref m22, .int m23, .int m24, .int m25, .int m26, .ref m27, .int m28, .ref m29, .int m30, .int m31, .ref m32, .int m33, .ref m34, .ref m35, .int m36, .int m37, .ref m38, .int m39, .int m40, .int m41, .ref m42, .int m43, .ref m44, .int m45, .int m46, .int m47, .int m48, .int m49, .ref m50, .ref m51, .ref m52, .ref m53])), (m1, .inl (m1t, 940, .inl f_28)), (m6, .inl (m6t, 283, .inl m6f)), (m7, .inl (m7t, 67, .inl m7f)), (m8, .inl (m8t, 135, .inl m8f)), (m9, .inl (m9t, 36, .inr (.inl m9f))), (m10, .inl (m10t, 21, .inr (.inl m10f))), (m21, .inl (m21t, 280, .inl m21f)), (m22, .inl (m22t, 35, .inl m22f)), (m27, .inl (m27t, 4, .inl m27f)), (m29, .inl (m29t, 5, .inl m29f)), (m32, .inl (m32t, 7, .inl m32f)), (m34, .inl (m34t, 25, .inl m34f)), (m35, .inl (m35t, 25, .inl m35f)), (m38, .inl (m38t, 48, .inl m38f)), (m42, .inl (m42t, 4, .inl m42f)), (m44, .inl (m44t, 45, .inl m44f)), (m50, .inl (m50t, 45, .inl m50f)), (m51, .inl (m51t, 566, .inl m51f)), (m52, .inl (m52t, 36, .inr (.inl m52f))), (m53, .inl (m53t, 2, .inl m53f))] := hD
    have hK : va_K D vwCl [(m1t, .byte), (m6t, .int), (m7t, .int), (m8t, .int), (m9t, .long), (m10t, .long), (m21t, .int), (m22t, .int), (m27t, .int), (m29t, .int), (m32t, .int), (m34t, .boolean), (m35t, .boolean), (m38t, .byte), (m42t, .int), (m44t, .int), (m50t, .boolean), (m51t, .int), (m52t, .long), (m53t, .boolean)] s := hK
    refine W.cs (cells' := 0) (slots' := 0) rfl rfl ?_
    refine lv_aload_n hx hb dX12_feed_47 rfl (lv_at hl 0 rfl) ?_
    refine va_get (D := D) (ci := 11) (v := .int x_26) (C := RX12) (T := TX12) (N := 54) hx hb hts hiX12 hown hK hP 0 rfl rfl 2 (by decide) (hts _ (List.mem_of_getElem? (i := 2) rfl)) (fun _ h9 => h9) rfl dX12_feed_48 ?_
    exact hret x_26 ([(mo, .inr (11, [.int 0, .ref m1, .int x_26, .int m3, .int m4, .int m5, .ref m6, .ref m7, .ref m8, .ref m9, .ref m10, .int m11, .int m12, .int m13, .int m14, .int m15, .int m16, .long m17, .int m18, .int m19, .int m20, .ref m21, .ref m22, .int m23, .int m24, .int m25, .int m26, .ref m27, .int m28, .ref m29, .int m30, .int m31, .ref m32, .int m33, .ref m34, .ref m35, .int m36, .int m37, .ref m38, .int m39, .int m40, .int m41, .ref m42, .int m43, .ref m44, .int m45, .int m46, .int m47, .int m48, .int m49, .ref m50, .ref m51, .ref m52, .ref m53])), (m1, .inl (m1t, 940, .inl f_28)), (m6, .inl (m6t, 283, .inl m6f)), (m7, .inl (m7t, 67, .inl m7f)), (m8, .inl (m8t, 135, .inl m8f)), (m9, .inl (m9t, 36, .inr (.inl m9f))), (m10, .inl (m10t, 21, .inr (.inl m10f))), (m21, .inl (m21t, 280, .inl m21f)), (m22, .inl (m22t, 35, .inl m22f)), (m27, .inl (m27t, 4, .inl m27f)), (m29, .inl (m29t, 5, .inl m29f)), (m32, .inl (m32t, 7, .inl m32f)), (m34, .inl (m34t, 25, .inl m34f)), (m35, .inl (m35t, 25, .inl m35f)), (m38, .inl (m38t, 48, .inl m38f)), (m42, .inl (m42t, 4, .inl m42f)), (m44, .inl (m44t, 45, .inl m44f)), (m50, .inl (m50t, 45, .inl m50f)), (m51, .inl (m51t, 566, .inl m51f)), (m52, .inl (m52t, 36, .inr (.inl m52f))), (m53, .inl (m53t, 2, .inl m53f))], []) _ _ _ _ dX12_feed_51 rfl ⟨0, x_26, f_28, (z_w (c := 0) (d := 940) h_27 rfl), (z_w (c := (-1)) (d := 940) h_27 rfl), (fun _ => h_5), (z_tfm ty_1 h_4.2 h_9 h_14 h_19 h_24 h_29), (z_ffI (z_w (c := 0) (d := 940) h_5 rfl).1 ty_1 h_4.2 (z_a4d h_9) (z_a4d h_14) (z_a4d h_19) (z_a4d h_24) h_10 h_15 h_20 h_25 h_30), rfl⟩ hP (hK.sub [] rfl) hD hS
  · skip
    have h_31 : z_in 941 960 y_1 := z_ltR (Int32.not_le.mp c_3) (z_lit (x := 940) (a := 940) (b := 940) rfl) h_2 rfl
    have h_32 : z_in 921 940 m2 := by have q1 := h_31.1; have q2 := h_31.2; have q3 := hm2.1; have q4 := hm2.2; exact ⟨by omega, by omega⟩
    refine lv_iconst (v := (-1)) hx hb dX12_feed_18 (by decide) ?_
    exact hret (-1) ([(mo, .inr (11, [.int 0, .ref m1, .int m2, .int m3, .int m4, .int m5, .ref m6, .ref m7, .ref m8, .ref m9, .ref m10, .int m11, .int m12, .int m13, .int m14, .int m15, .int m16, .long m17, .int m18, .int m19, .int m20, .ref m21, .ref m22, .int m23, .int m24, .int m25, .int m26, .ref m27, .int m28, .ref m29, .int m30, .int m31, .ref m32, .int m33, .ref m34, .ref m35, .int m36, .int m37, .ref m38, .int m39, .int m40, .int m41, .ref m42, .int m43, .ref m44, .int m45, .int m46, .int m47, .int m48, .int m49, .ref m50, .ref m51, .ref m52, .ref m53])), (m1, .inl (m1t, 940, .inl m1f)), (m6, .inl (m6t, 283, .inl m6f)), (m7, .inl (m7t, 67, .inl m7f)), (m8, .inl (m8t, 135, .inl m8f)), (m9, .inl (m9t, 36, .inr (.inl m9f))), (m10, .inl (m10t, 21, .inr (.inl m10f))), (m21, .inl (m21t, 280, .inl m21f)), (m22, .inl (m22t, 35, .inl m22f)), (m27, .inl (m27t, 4, .inl m27f)), (m29, .inl (m29t, 5, .inl m29f)), (m32, .inl (m32t, 7, .inl m32f)), (m34, .inl (m34t, 25, .inl m34f)), (m35, .inl (m35t, 25, .inl m35f)), (m38, .inl (m38t, 48, .inl m38f)), (m42, .inl (m42t, 4, .inl m42f)), (m44, .inl (m44t, 45, .inl m44f)), (m50, .inl (m50t, 45, .inl m50f)), (m51, .inl (m51t, 566, .inl m51f)), (m52, .inl (m52t, 36, .inr (.inl m52f))), (m53, .inl (m53t, 2, .inl m53f))], []) _ _ _ _ dX12_feed_19 rfl ⟨0, m2, m1f, (z_w (c := 0) (d := 940) h_32 rfl), (z_w (c := (-1)) (d := 940) (z_lit (x := (-1)) (a := (-1)) (b := (-1)) rfl) rfl), (fun h9 => absurd (Int.le_trans h9 (z_lit (x := (-1)) (a := (-1)) (b := (-1)) rfl).2) (by decide)), (z_tfn ty_1 h_31.1), (z_ffn ty_1 h_31.1), rfl⟩ hP (hK.sub [] rfl) hD hS

set_option maxHeartbeats 8000000 in
set_option maxRecDepth 100000 in
theorem m_end (l : Launch) (D : va_G) (ad : Nat → Nat) (mo : Nat) (m0 : Int32) (m2 : Int32) (m3 : Int32) (m4 : Int32) (m5 : Int32) (m11 : Int32) (m12 : Int32) (m13 : Int32) (m14 : Int32) (m15 : Int32) (m16 : Int32) (m17 : Int64) (m18 : Int32) (m19 : Int32) (m20 : Int32) (m23 : Int32) (m24 : Int32) (m25 : Int32) (m26 : Int32) (m28 : Int32) (m30 : Int32) (m31 : Int32) (m33 : Int32) (m36 : Int32) (m37 : Int32) (m39 : Int32) (m40 : Int32) (m41 : Int32) (m43 : Int32) (m45 : Int32) (m46 : Int32) (m47 : Int32) (m48 : Int32) (m49 : Int32) (m1 : Nat) (m1t : ClassId) (m1f : Nat → Int32) (m6 : Nat) (m6t : ClassId) (m6f : Nat → Int32) (m7 : Nat) (m7t : ClassId) (m7f : Nat → Int32) (m8 : Nat) (m8t : ClassId) (m8f : Nat → Int32) (m9 : Nat) (m9t : ClassId) (m9f : Nat → Int64) (m10 : Nat) (m10t : ClassId) (m10f : Nat → Int64) (m21 : Nat) (m21t : ClassId) (m21f : Nat → Int32) (m22 : Nat) (m22t : ClassId) (m22f : Nat → Int32) (m27 : Nat) (m27t : ClassId) (m27f : Nat → Int32) (m29 : Nat) (m29t : ClassId) (m29f : Nat → Int32) (m32 : Nat) (m32t : ClassId) (m32f : Nat → Int32) (m34 : Nat) (m34t : ClassId) (m34f : Nat → Int32) (m35 : Nat) (m35t : ClassId) (m35f : Nat → Int32) (m38 : Nat) (m38t : ClassId) (m38f : Nat → Int32) (m42 : Nat) (m42t : ClassId) (m42f : Nat → Int32) (m44 : Nat) (m44t : ClassId) (m44f : Nat → Int32) (m50 : Nat) (m50t : ClassId) (m50f : Nat → Int32) (m51 : Nat) (m51t : ClassId) (m51f : Nat → Int32) (m52 : Nat) (m52t : ClassId) (m52f : Nat → Int64) (m53 : Nat) (m53t : ClassId) (m53f : Nat → Int32) (i0 : Int32) (hm2 : z_in 0 940 m2) (hm3 : z_in 0 940 m3) (hm4 : z_in 0 940 m4) (hm5 : z_in 0 940 m5) (hm11 : z_in 0 4 m11) (hm20 : z_in 0 1 m20) (hm23 : z_in 0 8 m23) (hm26 : z_in 0 1 m26) (hm28 : z_in (-1) 4 m28) (hm31 : z_in 0 1 m31) (hm33 : z_in (-1) 7 m33) (hm37 : z_in 0 1 m37) (hm39 : z_in 0 48 m39) (hm41 : z_in 0 40 m41) (hm43 : z_in 0 1 m43) (hm45 : z_in 0 45 m45) (hm46 : z_in 0 20 m46) (hm47 : z_in 0 45 m47) (hm49 : z_in 0 1 m49) (hm6f : z_sr m6f) (hm7f : z_hr m7f) (hm21f : z_ar rgU m21f) (hm22f : z_ar rgB m22f) (hm27f : z_al 0 4 m27f) (hm32f : z_al 0 4 m32f) (hm34f : z_al 0 1 m34f) (hm35f : z_al 0 1 m35f) (hm50f : z_al 0 1 m50f) (hm51f : z_ir m51f) (hm53f : z_al 0 1 m53f) : z_Mi l yX12_end wsX12_end { frames := 0, cells := 0, slots := 0, locals := 0 } D ad [.ref mo, .int i0] [(mo, .inr (11, [.int m0, .ref m1, .int m2, .int m3, .int m4, .int m5, .ref m6, .ref m7, .ref m8, .ref m9, .ref m10, .int m11, .int m12, .int m13, .int m14, .int m15, .int m16, .long m17, .int m18, .int m19, .int m20, .ref m21, .ref m22, .int m23, .int m24, .int m25, .int m26, .ref m27, .int m28, .ref m29, .int m30, .int m31, .ref m32, .int m33, .ref m34, .ref m35, .int m36, .int m37, .ref m38, .int m39, .int m40, .int m41, .ref m42, .int m43, .ref m44, .int m45, .int m46, .int m47, .int m48, .int m49, .ref m50, .ref m51, .ref m52, .ref m53])), (m1, .inl (m1t, 940, .inl m1f)), (m6, .inl (m6t, 283, .inl m6f)), (m7, .inl (m7t, 67, .inl m7f)), (m8, .inl (m8t, 135, .inl m8f)), (m9, .inl (m9t, 36, .inr (.inl m9f))), (m10, .inl (m10t, 21, .inr (.inl m10f))), (m21, .inl (m21t, 280, .inl m21f)), (m22, .inl (m22t, 35, .inl m22f)), (m27, .inl (m27t, 4, .inl m27f)), (m29, .inl (m29t, 5, .inl m29f)), (m32, .inl (m32t, 7, .inl m32f)), (m34, .inl (m34t, 25, .inl m34f)), (m35, .inl (m35t, 25, .inl m35f)), (m38, .inl (m38t, 48, .inl m38f)), (m42, .inl (m42t, 4, .inl m42f)), (m44, .inl (m44t, 45, .inl m44f)), (m50, .inl (m50t, 45, .inl m50f)), (m51, .inl (m51t, 566, .inl m51f)), (m52, .inl (m52t, 36, .inr (.inl m52f))), (m53, .inl (m53t, 2, .inl m53f))] [(m1t, .byte), (m6t, .int), (m7t, .int), (m8t, .int), (m9t, .long), (m10t, .long), (m21t, .int), (m22t, .int), (m27t, .int), (m29t, .int), (m32t, .int), (m34t, .boolean), (m35t, .boolean), (m38t, .byte), (m42t, .int), (m44t, .int), (m50t, .boolean), (m51t, .int), (m52t, .long), (m53t, .boolean)] 0 0 (fun r9 u9 => ∃ (x0_0 : Int32) (x0_2 : Int32), z_in 0 940 x0_2 ∧ z_in 0 1 r9 ∧ (r9 = 0 → z_in 0 0 x0_0) ∧ (r9 = 1 → z_in 0 940 i0) ∧ (r9 = 1 → z_in 0 0 x0_0) ∧ z_te r9 x0_2 m2 i0 ∧ u9 = ([(mo, .inr (11, [.int x0_0, .ref m1, .int x0_2, .int m3, .int m4, .int m5, .ref m6, .ref m7, .ref m8, .ref m9, .ref m10, .int m11, .int m12, .int m13, .int m14, .int m15, .int m16, .long m17, .int m18, .int m19, .int m20, .ref m21, .ref m22, .int m23, .int m24, .int m25, .int m26, .ref m27, .int m28, .ref m29, .int m30, .int m31, .ref m32, .int m33, .ref m34, .ref m35, .int m36, .int m37, .ref m38, .int m39, .int m40, .int m41, .ref m42, .int m43, .ref m44, .int m45, .int m46, .int m47, .int m48, .int m49, .ref m50, .ref m51, .ref m52, .ref m53])), (m1, .inl (m1t, 940, .inl m1f)), (m6, .inl (m6t, 283, .inl m6f)), (m7, .inl (m7t, 67, .inl m7f)), (m8, .inl (m8t, 135, .inl m8f)), (m9, .inl (m9t, 36, .inr (.inl m9f))), (m10, .inl (m10t, 21, .inr (.inl m10f))), (m21, .inl (m21t, 280, .inl m21f)), (m22, .inl (m22t, 35, .inl m22f)), (m27, .inl (m27t, 4, .inl m27f)), (m29, .inl (m29t, 5, .inl m29f)), (m32, .inl (m32t, 7, .inl m32f)), (m34, .inl (m34t, 25, .inl m34f)), (m35, .inl (m35t, 25, .inl m35f)), (m38, .inl (m38t, 48, .inl m38f)), (m42, .inl (m42t, 4, .inl m42f)), (m44, .inl (m44t, 45, .inl m44f)), (m50, .inl (m50t, 45, .inl m50f)), (m51, .inl (m51t, 566, .inl m51f)), (m52, .inl (m52t, 36, .inr (.inl m52f))), (m53, .inl (m53t, 2, .inl m53f))], [])) := by
  refine z_ofI (cc := cX12_end) (maxL := 2) (rt := .boolean) (by decide) rfl (Nat.le_of_ble_eq_true rfl) ?_
  intro p e s m below meth c Q A ls hx hb hml hown hts hin hK hP hD hA hE hO hS hl hret
  have hown : s.vm.findClass RX12 = some m.cls := hown
  have hiX12 : ∀ w ∈ wsX120, w ∈ wsX12_end := fun _ h9 => List.mem_cons_of_mem _ (List.mem_append_right _ h9)
  have hl : lv_has ls 2 [(0, .ref mo), (1, .int i0)] := hl
  refine lv_aload_n hx hb dX12_end_0 rfl (lv_at hl 0 rfl) ?_
  refine lv_iconst (v := 0) hx hb dX12_end_1 (by decide) ?_
  refine va_put (D := D) (ci := 11) (v := .int 0) (ty := tyX12 0) (C := RX12) (T := TX12) (N := 54) hx hb hts hiX12 tyX12 tyX12_ok nmX12 hown hK hP hD hS 0 rfl rfl 0 (by decide) (hts _ (List.mem_of_getElem? (i := 1) rfl)) (fun _ h9 => h9) rfl (tyX12_ok 0 (by decide)) rfl rfl (Nat.le_of_ble_eq_true rfl) dX12_end_2 (fun H locs hP hD hS => ?_)
  have hP : va_P D vwCl [(mo, .inr (11, [.int 0, .ref m1, .int m2, .int m3, .int m4, .int m5, .ref m6, .ref m7, .ref m8, .ref m9, .ref m10, .int m11, .int m12, .int m13, .int m14, .int m15, .int m16, .long m17, .int m18, .int m19, .int m20, .ref m21, .ref m22, .int m23, .int m24, .int m25, .int m26, .ref m27, .int m28, .ref m29, .int m30, .int m31, .ref m32, .int m33, .ref m34, .ref m35, .int m36, .int m37, .ref m38, .int m39, .int m40, .int m41, .ref m42, .int m43, .ref m44, .int m45, .int m46, .int m47, .int m48, .int m49, .ref m50, .ref m51, .ref m52, .ref m53])), (m1, .inl (m1t, 940, .inl m1f)), (m6, .inl (m6t, 283, .inl m6f)), (m7, .inl (m7t, 67, .inl m7f)), (m8, .inl (m8t, 135, .inl m8f)), (m9, .inl (m9t, 36, .inr (.inl m9f))), (m10, .inl (m10t, 21, .inr (.inl m10f))), (m21, .inl (m21t, 280, .inl m21f)), (m22, .inl (m22t, 35, .inl m22f)), (m27, .inl (m27t, 4, .inl m27f)), (m29, .inl (m29t, 5, .inl m29f)), (m32, .inl (m32t, 7, .inl m32f)), (m34, .inl (m34t, 25, .inl m34f)), (m35, .inl (m35t, 25, .inl m35f)), (m38, .inl (m38t, 48, .inl m38f)), (m42, .inl (m42t, 4, .inl m42f)), (m44, .inl (m44t, 45, .inl m44f)), (m50, .inl (m50t, 45, .inl m50f)), (m51, .inl (m51t, 566, .inl m51f)), (m52, .inl (m52t, 36, .inr (.inl m52f))), (m53, .inl (m53t, 2, .inl m53f))] H := hP
  have hD : va_D A [(mo, .inr (11, [.int 0, .ref m1, .int m2, .int m3, .int m4, .int m5, .ref m6, .ref m7, .ref m8, .ref m9, .ref m10, .int m11, .int m12, .int m13, .int m14, .int m15, .int m16, .long m17, .int m18, .int m19, .int m20, .ref m21, .ref m22, .int m23, .int m24, .int m25, .int m26, .ref m27, .int m28, .ref m29, .int m30, .int m31, .ref m32, .int m33, .ref m34, .ref m35, .int m36, .int m37, .ref m38, .int m39, .int m40, .int m41, .ref m42, .int m43, .ref m44, .int m45, .int m46, .int m47, .int m48, .int m49, .ref m50, .ref m51, .ref m52, .ref m53])), (m1, .inl (m1t, 940, .inl m1f)), (m6, .inl (m6t, 283, .inl m6f)), (m7, .inl (m7t, 67, .inl m7f)), (m8, .inl (m8t, 135, .inl m8f)), (m9, .inl (m9t, 36, .inr (.inl m9f))), (m10, .inl (m10t, 21, .inr (.inl m10f))), (m21, .inl (m21t, 280, .inl m21f)), (m22, .inl (m22t, 35, .inl m22f)), (m27, .inl (m27t, 4, .inl m27f)), (m29, .inl (m29t, 5, .inl m29f)), (m32, .inl (m32t, 7, .inl m32f)), (m34, .inl (m34t, 25, .inl m34f)), (m35, .inl (m35t, 25, .inl m35f)), (m38, .inl (m38t, 48, .inl m38f)), (m42, .inl (m42t, 4, .inl m42f)), (m44, .inl (m44t, 45, .inl m44f)), (m50, .inl (m50t, 45, .inl m50f)), (m51, .inl (m51t, 566, .inl m51f)), (m52, .inl (m52t, 36, .inr (.inl m52f))), (m53, .inl (m53t, 2, .inl m53f))] := hD
  refine lv_iload_n hx hb dX12_end_5 rfl (lv_at hl 1 rfl) ?_
  refine lv_if_lt (tgt := 17) hx hb dX12_end_6 (by decide) (fun c_1 => ?_) (fun c_1 => ?_)
  · skip
    have h_2 : z_in (-2147483648) (-1) i0 := z_ltL c_1 (z_any i0) (z_lit (x := 0) (a := 0) (b := 0) rfl) rfl
    refine lv_iconst (v := 0) hx hb dX12_end_17 (by decide) ?_
    exact hret 0 ([(mo, .inr (11, [.int 0, .ref m1, .int m2, .int m3, .int m4, .int m5, .ref m6, .ref m7, .ref m8, .ref m9, .ref m10, .int m11, .int m12, .int m13, .int m14, .int m15, .int m16, .long m17, .int m18, .int m19, .int m20, .ref m21, .ref m22, .int m23, .int m24, .int m25, .int m26, .ref m27, .int m28, .ref m29, .int m30, .int m31, .ref m32, .int m33, .ref m34, .ref m35, .int m36, .int m37, .ref m38, .int m39, .int m40, .int m41, .ref m42, .int m43, .ref m44, .int m45, .int m46, .int m47, .int m48, .int m49, .ref m50, .ref m51, .ref m52, .ref m53])), (m1, .inl (m1t, 940, .inl m1f)), (m6, .inl (m6t, 283, .inl m6f)), (m7, .inl (m7t, 67, .inl m7f)), (m8, .inl (m8t, 135, .inl m8f)), (m9, .inl (m9t, 36, .inr (.inl m9f))), (m10, .inl (m10t, 21, .inr (.inl m10f))), (m21, .inl (m21t, 280, .inl m21f)), (m22, .inl (m22t, 35, .inl m22f)), (m27, .inl (m27t, 4, .inl m27f)), (m29, .inl (m29t, 5, .inl m29f)), (m32, .inl (m32t, 7, .inl m32f)), (m34, .inl (m34t, 25, .inl m34f)), (m35, .inl (m35t, 25, .inl m35f)), (m38, .inl (m38t, 48, .inl m38f)), (m42, .inl (m42t, 4, .inl m42f)), (m44, .inl (m44t, 45, .inl m44f)), (m50, .inl (m50t, 45, .inl m50f)), (m51, .inl (m51t, 566, .inl m51f)), (m52, .inl (m52t, 36, .inr (.inl m52f))), (m53, .inl (m53t, 2, .inl m53f))], []) _ _ _ _ dX12_end_18 (by decide) ⟨0, m2, hm2, (z_w (c := 0) (d := 1) (z_lit (x := 0) (a := 0) (b := 0) rfl) rfl), (fun _ => (z_lit (x := 0) (a := 0) (b := 0) rfl)), (fun h9 => absurd h9 (by decide)), (fun h9 => absurd h9 (by decide)), (z_teN h_2.2), rfl⟩ hP (hK.sub [] rfl) hD hS
  · skip
    have h_3 : z_in 0 2147483647 i0 := z_leR (Int32.not_lt.mp c_1) (z_lit (x := 0) (a := 0) (b := 0) rfl) (z_any i0) rfl
    refine lv_iload_n hx hb dX12_end_9 rfl (lv_at hl 1 rfl) ?_
    refine lv_aload_n hx hb dX12_end_10 rfl (lv_at hl 0 rfl) ?_
    refine va_get (D := D) (ci := 11) (v := .int m2) (C := RX12) (T := TX12) (N := 54) hx hb hts hiX12 hown hK hP 0 rfl rfl 2 (by decide) (hts _ (List.mem_of_getElem? (i := 2) rfl)) (fun _ h9 => h9) rfl dX12_end_11 ?_
    refine lv_icmp_le (tgt := 19) hx hb dX12_end_14 (by decide) (fun c_4 => ?_) (fun c_4 => ?_)
    · skip
      have h_5 : z_in 0 940 i0 := z_leL c_4 h_3 hm2 rfl
      refine lv_aload_n hx hb dX12_end_19 rfl (lv_at hl 0 rfl) ?_
      refine lv_iload_n hx hb dX12_end_20 rfl (lv_at hl 1 rfl) ?_
      refine va_put (D := D) (ci := 11) (v := .int i0) (ty := tyX12 2) (C := RX12) (T := TX12) (N := 54) hx hb hts hiX12 tyX12 tyX12_ok nmX12 hown hK hP hD hS 0 rfl rfl 2 (by decide) (hts _ (List.mem_of_getElem? (i := 2) rfl)) (fun _ h9 => h9) rfl (tyX12_ok 2 (by decide)) rfl rfl (Nat.le_of_ble_eq_true rfl) dX12_end_21 (fun H locs hP hD hS => ?_)
      have hP : va_P D vwCl [(mo, .inr (11, [.int 0, .ref m1, .int i0, .int m3, .int m4, .int m5, .ref m6, .ref m7, .ref m8, .ref m9, .ref m10, .int m11, .int m12, .int m13, .int m14, .int m15, .int m16, .long m17, .int m18, .int m19, .int m20, .ref m21, .ref m22, .int m23, .int m24, .int m25, .int m26, .ref m27, .int m28, .ref m29, .int m30, .int m31, .ref m32, .int m33, .ref m34, .ref m35, .int m36, .int m37, .ref m38, .int m39, .int m40, .int m41, .ref m42, .int m43, .ref m44, .int m45, .int m46, .int m47, .int m48, .int m49, .ref m50, .ref m51, .ref m52, .ref m53])), (m1, .inl (m1t, 940, .inl m1f)), (m6, .inl (m6t, 283, .inl m6f)), (m7, .inl (m7t, 67, .inl m7f)), (m8, .inl (m8t, 135, .inl m8f)), (m9, .inl (m9t, 36, .inr (.inl m9f))), (m10, .inl (m10t, 21, .inr (.inl m10f))), (m21, .inl (m21t, 280, .inl m21f)), (m22, .inl (m22t, 35, .inl m22f)), (m27, .inl (m27t, 4, .inl m27f)), (m29, .inl (m29t, 5, .inl m29f)), (m32, .inl (m32t, 7, .inl m32f)), (m34, .inl (m34t, 25, .inl m34f)), (m35, .inl (m35t, 25, .inl m35f)), (m38, .inl (m38t, 48, .inl m38f)), (m42, .inl (m42t, 4, .inl m42f)), (m44, .inl (m44t, 45, .inl m44f)), (m50, .inl (m50t, 45, .inl m50f)), (m51, .inl (m51t, 566, .inl m51f)), (m52, .inl (m52t, 36, .inr (.inl m52f))), (m53, .inl (m53t, 2, .inl m53f))] H := hP
      have hD : va_D A [(mo, .inr (11, [.int 0, .ref m1, .int i0, .int m3, .int m4, .int m5, .ref m6, .ref m7, .ref m8, .ref m9, .ref m10, .int m11, .int m12, .int m13, .int m14, .int m15, .int m16, .long m17, .int m18, .int m19, .int m20, .ref m21, .ref m22, .int m23, .int m24, .int m25, .int m26, .ref m27, .int m28, .ref m29, .int m30, .int m31, .ref m32, .int m33, .ref m34, .ref m35, .int m36, .int m37, .ref m38, .int m39, .int m40, .int m41, .ref m42, .int m43, .ref m44, .int m45, .int m46, .int m47, .int m48, .int m49, .ref m50, .ref m51, .ref m52, .ref m53])), (m1, .inl (m1t, 940, .inl m1f)), (m6, .inl (m6t, 283, .inl m6f)), (m7, .inl (m7t, 67, .inl m7f)), (m8, .inl (m8t, 135, .inl m8f)), (m9, .inl (m9t, 36, .inr (.inl m9f))), (m10, .inl (m10t, 21, .inr (.inl m10f))), (m21, .inl (m21t, 280, .inl m21f)), (m22, .inl (m22t, 35, .inl m22f)), (m27, .inl (m27t, 4, .inl m27f)), (m29, .inl (m29t, 5, .inl m29f)), (m32, .inl (m32t, 7, .inl m32f)), (m34, .inl (m34t, 25, .inl m34f)), (m35, .inl (m35t, 25, .inl m35f)), (m38, .inl (m38t, 48, .inl m38f)), (m42, .inl (m42t, 4, .inl m42f)), (m44, .inl (m44t, 45, .inl m44f)), (m50, .inl (m50t, 45, .inl m50f)), (m51, .inl (m51t, 566, .inl m51f)), (m52, .inl (m52t, 36, .inr (.inl m52f))), (m53, .inl (m53t, 2, .inl m53f))] := hD
      refine lv_iconst (v := 1) hx hb dX12_end_24 (by decide) ?_
      exact hret 1 ([(mo, .inr (11, [.int 0, .ref m1, .int i0, .int m3, .int m4, .int m5, .ref m6, .ref m7, .ref m8, .ref m9, .ref m10, .int m11, .int m12, .int m13, .int m14, .int m15, .int m16, .long m17, .int m18, .int m19, .int m20, .ref m21, .ref m22, .int m23, .int m24, .int m25, .int m26, .ref m27, .int m28, .ref m29, .int m30, .int m31, .ref m32, .int m33, .ref m34, .ref m35, .int m36, .int m37, .ref m38, .int m39, .int m40, .int m41, .ref m42, .int m43, .ref m44, .int m45, .int m46, .int m47, .int m48, .int m49, .ref m50, .ref m51, .ref m52, .ref m53])), (m1, .inl (m1t, 940, .inl m1f)), (m6, .inl (m6t, 283, .inl m6f)), (m7, .inl (m7t, 67, .inl m7f)), (m8, .inl (m8t, 135, .inl m8f)), (m9, .inl (m9t, 36, .inr (.inl m9f))), (m10, .inl (m10t, 21, .inr (.inl m10f))), (m21, .inl (m21t, 280, .inl m21f)), (m22, .inl (m22t, 35, .inl m22f)), (m27, .inl (m27t, 4, .inl m27f)), (m29, .inl (m29t, 5, .inl m29f)), (m32, .inl (m32t, 7, .inl m32f)), (m34, .inl (m34t, 25, .inl m34f)), (m35, .inl (m35t, 25, .inl m35f)), (m38, .inl (m38t, 48, .inl m38f)), (m42, .inl (m42t, 4, .inl m42f)), (m44, .inl (m44t, 45, .inl m44f)), (m50, .inl (m50t, 45, .inl m50f)), (m51, .inl (m51t, 566, .inl m51f)), (m52, .inl (m52t, 36, .inr (.inl m52f))), (m53, .inl (m53t, 2, .inl m53f))], []) _ _ _ _ dX12_end_25 (by decide) ⟨0, i0, h_5, (z_w (c := 0) (d := 1) (z_lit (x := 1) (a := 1) (b := 1) rfl) rfl), (fun h9 => absurd h9 (by decide)), (fun _ => h_5), (fun _ => (z_lit (x := 0) (a := 0) (b := 0) rfl)), (z_teT h_5.1 c_4), rfl⟩ hP (hK.sub [] rfl) hD hS
    · skip
      have h_6 : z_in 1 2147483647 i0 := z_ltR (Int32.not_le.mp c_4) hm2 h_3 rfl
      refine lv_iconst (v := 0) hx hb dX12_end_17 (by decide) ?_
      exact hret 0 ([(mo, .inr (11, [.int 0, .ref m1, .int m2, .int m3, .int m4, .int m5, .ref m6, .ref m7, .ref m8, .ref m9, .ref m10, .int m11, .int m12, .int m13, .int m14, .int m15, .int m16, .long m17, .int m18, .int m19, .int m20, .ref m21, .ref m22, .int m23, .int m24, .int m25, .int m26, .ref m27, .int m28, .ref m29, .int m30, .int m31, .ref m32, .int m33, .ref m34, .ref m35, .int m36, .int m37, .ref m38, .int m39, .int m40, .int m41, .ref m42, .int m43, .ref m44, .int m45, .int m46, .int m47, .int m48, .int m49, .ref m50, .ref m51, .ref m52, .ref m53])), (m1, .inl (m1t, 940, .inl m1f)), (m6, .inl (m6t, 283, .inl m6f)), (m7, .inl (m7t, 67, .inl m7f)), (m8, .inl (m8t, 135, .inl m8f)), (m9, .inl (m9t, 36, .inr (.inl m9f))), (m10, .inl (m10t, 21, .inr (.inl m10f))), (m21, .inl (m21t, 280, .inl m21f)), (m22, .inl (m22t, 35, .inl m22f)), (m27, .inl (m27t, 4, .inl m27f)), (m29, .inl (m29t, 5, .inl m29f)), (m32, .inl (m32t, 7, .inl m32f)), (m34, .inl (m34t, 25, .inl m34f)), (m35, .inl (m35t, 25, .inl m35f)), (m38, .inl (m38t, 48, .inl m38f)), (m42, .inl (m42t, 4, .inl m42f)), (m44, .inl (m44t, 45, .inl m44f)), (m50, .inl (m50t, 45, .inl m50f)), (m51, .inl (m51t, 566, .inl m51f)), (m52, .inl (m52t, 36, .inr (.inl m52f))), (m53, .inl (m53t, 2, .inl m53f))], []) _ _ _ _ dX12_end_18 (by decide) ⟨0, m2, hm2, (z_w (c := 0) (d := 1) (z_lit (x := 0) (a := 0) (b := 0) rfl) rfl), (fun _ => (z_lit (x := 0) (a := 0) (b := 0) rfl)), (fun h9 => absurd h9 (by decide)), (fun h9 => absurd h9 (by decide)), (z_teG (Int32.not_le.mp c_4)), rfl⟩ hP (hK.sub [] rfl) hD hS

set_option maxHeartbeats 8000000 in
set_option maxRecDepth 100000 in
theorem m_taken (l : Launch) (D : va_G) (ad : Nat → Nat) (mo : Nat) (m0 : Int32) (m2 : Int32) (m3 : Int32) (m4 : Int32) (m5 : Int32) (m11 : Int32) (m12 : Int32) (m13 : Int32) (m14 : Int32) (m15 : Int32) (m16 : Int32) (m17 : Int64) (m18 : Int32) (m19 : Int32) (m20 : Int32) (m23 : Int32) (m24 : Int32) (m25 : Int32) (m26 : Int32) (m28 : Int32) (m30 : Int32) (m31 : Int32) (m33 : Int32) (m36 : Int32) (m37 : Int32) (m39 : Int32) (m40 : Int32) (m41 : Int32) (m43 : Int32) (m45 : Int32) (m46 : Int32) (m47 : Int32) (m48 : Int32) (m49 : Int32) (m1 : Nat) (m1t : ClassId) (m1f : Nat → Int32) (m6 : Nat) (m6t : ClassId) (m6f : Nat → Int32) (m7 : Nat) (m7t : ClassId) (m7f : Nat → Int32) (m8 : Nat) (m8t : ClassId) (m8f : Nat → Int32) (m9 : Nat) (m9t : ClassId) (m9f : Nat → Int64) (m10 : Nat) (m10t : ClassId) (m10f : Nat → Int64) (m21 : Nat) (m21t : ClassId) (m21f : Nat → Int32) (m22 : Nat) (m22t : ClassId) (m22f : Nat → Int32) (m27 : Nat) (m27t : ClassId) (m27f : Nat → Int32) (m29 : Nat) (m29t : ClassId) (m29f : Nat → Int32) (m32 : Nat) (m32t : ClassId) (m32f : Nat → Int32) (m34 : Nat) (m34t : ClassId) (m34f : Nat → Int32) (m35 : Nat) (m35t : ClassId) (m35f : Nat → Int32) (m38 : Nat) (m38t : ClassId) (m38f : Nat → Int32) (m42 : Nat) (m42t : ClassId) (m42f : Nat → Int32) (m44 : Nat) (m44t : ClassId) (m44f : Nat → Int32) (m50 : Nat) (m50t : ClassId) (m50f : Nat → Int32) (m51 : Nat) (m51t : ClassId) (m51f : Nat → Int32) (m52 : Nat) (m52t : ClassId) (m52f : Nat → Int64) (m53 : Nat) (m53t : ClassId) (m53f : Nat → Int32) (i0 : Int32) (hm2 : z_in 0 940 m2) (hm3 : z_in 0 940 m3) (hm4 : z_in 0 940 m4) (hm5 : z_in 0 940 m5) (hm11 : z_in 0 4 m11) (hm20 : z_in 0 1 m20) (hm23 : z_in 0 8 m23) (hm26 : z_in 0 1 m26) (hm28 : z_in (-1) 4 m28) (hm31 : z_in 0 1 m31) (hm33 : z_in (-1) 7 m33) (hm37 : z_in 0 1 m37) (hm39 : z_in 0 48 m39) (hm41 : z_in 0 40 m41) (hm43 : z_in 0 1 m43) (hm45 : z_in 0 45 m45) (hm46 : z_in 0 20 m46) (hm47 : z_in 0 45 m47) (hm49 : z_in 0 1 m49) (hm6f : z_sr m6f) (hm7f : z_hr m7f) (hm21f : z_ar rgU m21f) (hm22f : z_ar rgB m22f) (hm27f : z_al 0 4 m27f) (hm32f : z_al 0 4 m32f) (hm34f : z_al 0 1 m34f) (hm35f : z_al 0 1 m35f) (hm50f : z_al 0 1 m50f) (hm51f : z_ir m51f) (hm53f : z_al 0 1 m53f) (hi0 : z_in 0 940 i0) : z_Mv l yX12_taken wsX12_taken { frames := 0, cells := 0, slots := 0, locals := 0 } D ad [.ref mo, .int i0] [(mo, .inr (11, [.int m0, .ref m1, .int m2, .int m3, .int m4, .int m5, .ref m6, .ref m7, .ref m8, .ref m9, .ref m10, .int m11, .int m12, .int m13, .int m14, .int m15, .int m16, .long m17, .int m18, .int m19, .int m20, .ref m21, .ref m22, .int m23, .int m24, .int m25, .int m26, .ref m27, .int m28, .ref m29, .int m30, .int m31, .ref m32, .int m33, .ref m34, .ref m35, .int m36, .int m37, .ref m38, .int m39, .int m40, .int m41, .ref m42, .int m43, .ref m44, .int m45, .int m46, .int m47, .int m48, .int m49, .ref m50, .ref m51, .ref m52, .ref m53])), (m1, .inl (m1t, 940, .inl m1f)), (m6, .inl (m6t, 283, .inl m6f)), (m7, .inl (m7t, 67, .inl m7f)), (m8, .inl (m8t, 135, .inl m8f)), (m9, .inl (m9t, 36, .inr (.inl m9f))), (m10, .inl (m10t, 21, .inr (.inl m10f))), (m21, .inl (m21t, 280, .inl m21f)), (m22, .inl (m22t, 35, .inl m22f)), (m27, .inl (m27t, 4, .inl m27f)), (m29, .inl (m29t, 5, .inl m29f)), (m32, .inl (m32t, 7, .inl m32f)), (m34, .inl (m34t, 25, .inl m34f)), (m35, .inl (m35t, 25, .inl m35f)), (m38, .inl (m38t, 48, .inl m38f)), (m42, .inl (m42t, 4, .inl m42f)), (m44, .inl (m44t, 45, .inl m44f)), (m50, .inl (m50t, 45, .inl m50f)), (m51, .inl (m51t, 566, .inl m51f)), (m52, .inl (m52t, 36, .inr (.inl m52f))), (m53, .inl (m53t, 2, .inl m53f))] [(m1t, .byte), (m6t, .int), (m7t, .int), (m8t, .int), (m9t, .long), (m10t, .long), (m21t, .int), (m22t, .int), (m27t, .int), (m29t, .int), (m32t, .int), (m34t, .boolean), (m35t, .boolean), (m38t, .byte), (m42t, .int), (m44t, .int), (m50t, .boolean), (m51t, .int), (m52t, .long), (m53t, .boolean)] 0 0 (fun u9 => ∃ (x0_2 : Int32) (x0_3 : Int32) (x0_4 : Int32) (x0_5 : Int32), z_in 0 940 x0_2 ∧ z_in 0 940 x0_3 ∧ z_in 0 940 x0_4 ∧ z_in 0 940 x0_5 ∧ z_tz x0_2 ∧ z_sz x0_3 m2 ∧ z_sz x0_5 i0 ∧ z_z0 x0_4 ∧ u9 = ([(mo, .inr (11, [.int m0, .ref m1, .int x0_2, .int x0_3, .int x0_4, .int x0_5, .ref m6, .ref m7, .ref m8, .ref m9, .ref m10, .int m11, .int m12, .int m13, .int m14, .int m15, .int m16, .long m17, .int m18, .int m19, .int m20, .ref m21, .ref m22, .int m23, .int m24, .int m25, .int m26, .ref m27, .int m28, .ref m29, .int m30, .int m31, .ref m32, .int m33, .ref m34, .ref m35, .int m36, .int m37, .ref m38, .int m39, .int m40, .int m41, .ref m42, .int m43, .ref m44, .int m45, .int m46, .int m47, .int m48, .int m49, .ref m50, .ref m51, .ref m52, .ref m53])), (m1, .inl (m1t, 940, .inl m1f)), (m6, .inl (m6t, 283, .inl m6f)), (m7, .inl (m7t, 67, .inl m7f)), (m8, .inl (m8t, 135, .inl m8f)), (m9, .inl (m9t, 36, .inr (.inl m9f))), (m10, .inl (m10t, 21, .inr (.inl m10f))), (m21, .inl (m21t, 280, .inl m21f)), (m22, .inl (m22t, 35, .inl m22f)), (m27, .inl (m27t, 4, .inl m27f)), (m29, .inl (m29t, 5, .inl m29f)), (m32, .inl (m32t, 7, .inl m32f)), (m34, .inl (m34t, 25, .inl m34f)), (m35, .inl (m35t, 25, .inl m35f)), (m38, .inl (m38t, 48, .inl m38f)), (m42, .inl (m42t, 4, .inl m42f)), (m44, .inl (m44t, 45, .inl m44f)), (m50, .inl (m50t, 45, .inl m50f)), (m51, .inl (m51t, 566, .inl m51f)), (m52, .inl (m52t, 36, .inr (.inl m52f))), (m53, .inl (m53t, 2, .inl m53f))], [])) := by
  refine z_ofV (cc := cX12_taken) (maxL := 2) (by decide) rfl (Nat.le_of_ble_eq_true rfl) ?_
  intro p e s m below meth c Q A ls hx hb hml hown hts hin hK hP hD hA hE hO hS hl hret
  have hown : s.vm.findClass RX12 = some m.cls := hown
  have hiX12 : ∀ w ∈ wsX120, w ∈ wsX12_taken := fun _ h9 => List.mem_cons_of_mem _ (List.mem_append_right _ h9)
  have hl : lv_has ls 2 [(0, .ref mo), (1, .int i0)] := hl
  refine lv_aload_n hx hb dX12_taken_0 rfl (lv_at hl 0 rfl) ?_
  refine lv_aload_n hx hb dX12_taken_1 rfl (lv_at hl 0 rfl) ?_
  refine va_get (D := D) (ci := 11) (v := .int m2) (C := RX12) (T := TX12) (N := 54) hx hb hts hiX12 hown hK hP 0 rfl rfl 2 (by decide) (hts _ (List.mem_of_getElem? (i := 1) rfl)) (fun _ h9 => h9) rfl dX12_taken_2 ?_
  refine va_put (D := D) (ci := 11) (v := .int m2) (ty := tyX12 3) (C := RX12) (T := TX12) (N := 54) hx hb hts hiX12 tyX12 tyX12_ok nmX12 hown hK hP hD hS 0 rfl rfl 3 (by decide) (hts _ (List.mem_of_getElem? (i := 2) rfl)) (fun _ h9 => h9) rfl (tyX12_ok 3 (by decide)) rfl rfl (Nat.le_of_ble_eq_true rfl) dX12_taken_5 (fun H locs hP hD hS => ?_)
  have hP : va_P D vwCl [(mo, .inr (11, [.int m0, .ref m1, .int m2, .int m2, .int m4, .int m5, .ref m6, .ref m7, .ref m8, .ref m9, .ref m10, .int m11, .int m12, .int m13, .int m14, .int m15, .int m16, .long m17, .int m18, .int m19, .int m20, .ref m21, .ref m22, .int m23, .int m24, .int m25, .int m26, .ref m27, .int m28, .ref m29, .int m30, .int m31, .ref m32, .int m33, .ref m34, .ref m35, .int m36, .int m37, .ref m38, .int m39, .int m40, .int m41, .ref m42, .int m43, .ref m44, .int m45, .int m46, .int m47, .int m48, .int m49, .ref m50, .ref m51, .ref m52, .ref m53])), (m1, .inl (m1t, 940, .inl m1f)), (m6, .inl (m6t, 283, .inl m6f)), (m7, .inl (m7t, 67, .inl m7f)), (m8, .inl (m8t, 135, .inl m8f)), (m9, .inl (m9t, 36, .inr (.inl m9f))), (m10, .inl (m10t, 21, .inr (.inl m10f))), (m21, .inl (m21t, 280, .inl m21f)), (m22, .inl (m22t, 35, .inl m22f)), (m27, .inl (m27t, 4, .inl m27f)), (m29, .inl (m29t, 5, .inl m29f)), (m32, .inl (m32t, 7, .inl m32f)), (m34, .inl (m34t, 25, .inl m34f)), (m35, .inl (m35t, 25, .inl m35f)), (m38, .inl (m38t, 48, .inl m38f)), (m42, .inl (m42t, 4, .inl m42f)), (m44, .inl (m44t, 45, .inl m44f)), (m50, .inl (m50t, 45, .inl m50f)), (m51, .inl (m51t, 566, .inl m51f)), (m52, .inl (m52t, 36, .inr (.inl m52f))), (m53, .inl (m53t, 2, .inl m53f))] H := hP
  have hD : va_D A [(mo, .inr (11, [.int m0, .ref m1, .int m2, .int m2, .int m4, .int m5, .ref m6, .ref m7, .ref m8, .ref m9, .ref m10, .int m11, .int m12, .int m13, .int m14, .int m15, .int m16, .long m17, .int m18, .int m19, .int m20, .ref m21, .ref m22, .int m23, .int m24, .int m25, .int m26, .ref m27, .int m28, .ref m29, .int m30, .int m31, .ref m32, .int m33, .ref m34, .ref m35, .int m36, .int m37, .ref m38, .int m39, .int m40, .int m41, .ref m42, .int m43, .ref m44, .int m45, .int m46, .int m47, .int m48, .int m49, .ref m50, .ref m51, .ref m52, .ref m53])), (m1, .inl (m1t, 940, .inl m1f)), (m6, .inl (m6t, 283, .inl m6f)), (m7, .inl (m7t, 67, .inl m7f)), (m8, .inl (m8t, 135, .inl m8f)), (m9, .inl (m9t, 36, .inr (.inl m9f))), (m10, .inl (m10t, 21, .inr (.inl m10f))), (m21, .inl (m21t, 280, .inl m21f)), (m22, .inl (m22t, 35, .inl m22f)), (m27, .inl (m27t, 4, .inl m27f)), (m29, .inl (m29t, 5, .inl m29f)), (m32, .inl (m32t, 7, .inl m32f)), (m34, .inl (m34t, 25, .inl m34f)), (m35, .inl (m35t, 25, .inl m35f)), (m38, .inl (m38t, 48, .inl m38f)), (m42, .inl (m42t, 4, .inl m42f)), (m44, .inl (m44t, 45, .inl m44f)), (m50, .inl (m50t, 45, .inl m50f)), (m51, .inl (m51t, 566, .inl m51f)), (m52, .inl (m52t, 36, .inr (.inl m52f))), (m53, .inl (m53t, 2, .inl m53f))] := hD
  refine lv_aload_n hx hb dX12_taken_8 rfl (lv_at hl 0 rfl) ?_
  refine lv_iconst (v := 0) hx hb dX12_taken_9 (by decide) ?_
  refine va_put (D := D) (ci := 11) (v := .int 0) (ty := tyX12 2) (C := RX12) (T := TX12) (N := 54) hx hb hts hiX12 tyX12 tyX12_ok nmX12 hown hK hP hD hS 0 rfl rfl 2 (by decide) (hts _ (List.mem_of_getElem? (i := 1) rfl)) (fun _ h9 => h9) rfl (tyX12_ok 2 (by decide)) rfl rfl (Nat.le_of_ble_eq_true rfl) dX12_taken_10 (fun H locs hP hD hS => ?_)
  have hP : va_P D vwCl [(mo, .inr (11, [.int m0, .ref m1, .int 0, .int m2, .int m4, .int m5, .ref m6, .ref m7, .ref m8, .ref m9, .ref m10, .int m11, .int m12, .int m13, .int m14, .int m15, .int m16, .long m17, .int m18, .int m19, .int m20, .ref m21, .ref m22, .int m23, .int m24, .int m25, .int m26, .ref m27, .int m28, .ref m29, .int m30, .int m31, .ref m32, .int m33, .ref m34, .ref m35, .int m36, .int m37, .ref m38, .int m39, .int m40, .int m41, .ref m42, .int m43, .ref m44, .int m45, .int m46, .int m47, .int m48, .int m49, .ref m50, .ref m51, .ref m52, .ref m53])), (m1, .inl (m1t, 940, .inl m1f)), (m6, .inl (m6t, 283, .inl m6f)), (m7, .inl (m7t, 67, .inl m7f)), (m8, .inl (m8t, 135, .inl m8f)), (m9, .inl (m9t, 36, .inr (.inl m9f))), (m10, .inl (m10t, 21, .inr (.inl m10f))), (m21, .inl (m21t, 280, .inl m21f)), (m22, .inl (m22t, 35, .inl m22f)), (m27, .inl (m27t, 4, .inl m27f)), (m29, .inl (m29t, 5, .inl m29f)), (m32, .inl (m32t, 7, .inl m32f)), (m34, .inl (m34t, 25, .inl m34f)), (m35, .inl (m35t, 25, .inl m35f)), (m38, .inl (m38t, 48, .inl m38f)), (m42, .inl (m42t, 4, .inl m42f)), (m44, .inl (m44t, 45, .inl m44f)), (m50, .inl (m50t, 45, .inl m50f)), (m51, .inl (m51t, 566, .inl m51f)), (m52, .inl (m52t, 36, .inr (.inl m52f))), (m53, .inl (m53t, 2, .inl m53f))] H := hP
  have hD : va_D A [(mo, .inr (11, [.int m0, .ref m1, .int 0, .int m2, .int m4, .int m5, .ref m6, .ref m7, .ref m8, .ref m9, .ref m10, .int m11, .int m12, .int m13, .int m14, .int m15, .int m16, .long m17, .int m18, .int m19, .int m20, .ref m21, .ref m22, .int m23, .int m24, .int m25, .int m26, .ref m27, .int m28, .ref m29, .int m30, .int m31, .ref m32, .int m33, .ref m34, .ref m35, .int m36, .int m37, .ref m38, .int m39, .int m40, .int m41, .ref m42, .int m43, .ref m44, .int m45, .int m46, .int m47, .int m48, .int m49, .ref m50, .ref m51, .ref m52, .ref m53])), (m1, .inl (m1t, 940, .inl m1f)), (m6, .inl (m6t, 283, .inl m6f)), (m7, .inl (m7t, 67, .inl m7f)), (m8, .inl (m8t, 135, .inl m8f)), (m9, .inl (m9t, 36, .inr (.inl m9f))), (m10, .inl (m10t, 21, .inr (.inl m10f))), (m21, .inl (m21t, 280, .inl m21f)), (m22, .inl (m22t, 35, .inl m22f)), (m27, .inl (m27t, 4, .inl m27f)), (m29, .inl (m29t, 5, .inl m29f)), (m32, .inl (m32t, 7, .inl m32f)), (m34, .inl (m34t, 25, .inl m34f)), (m35, .inl (m35t, 25, .inl m35f)), (m38, .inl (m38t, 48, .inl m38f)), (m42, .inl (m42t, 4, .inl m42f)), (m44, .inl (m44t, 45, .inl m44f)), (m50, .inl (m50t, 45, .inl m50f)), (m51, .inl (m51t, 566, .inl m51f)), (m52, .inl (m52t, 36, .inr (.inl m52f))), (m53, .inl (m53t, 2, .inl m53f))] := hD
  refine lv_aload_n hx hb dX12_taken_13 rfl (lv_at hl 0 rfl) ?_
  refine lv_iconst (v := 0) hx hb dX12_taken_14 (by decide) ?_
  refine va_put (D := D) (ci := 11) (v := .int 0) (ty := tyX12 4) (C := RX12) (T := TX12) (N := 54) hx hb hts hiX12 tyX12 tyX12_ok nmX12 hown hK hP hD hS 0 rfl rfl 4 (by decide) (hts _ (List.mem_of_getElem? (i := 3) rfl)) (fun _ h9 => h9) rfl (tyX12_ok 4 (by decide)) rfl rfl (Nat.le_of_ble_eq_true rfl) dX12_taken_15 (fun H locs hP hD hS => ?_)
  have hP : va_P D vwCl [(mo, .inr (11, [.int m0, .ref m1, .int 0, .int m2, .int 0, .int m5, .ref m6, .ref m7, .ref m8, .ref m9, .ref m10, .int m11, .int m12, .int m13, .int m14, .int m15, .int m16, .long m17, .int m18, .int m19, .int m20, .ref m21, .ref m22, .int m23, .int m24, .int m25, .int m26, .ref m27, .int m28, .ref m29, .int m30, .int m31, .ref m32, .int m33, .ref m34, .ref m35, .int m36, .int m37, .ref m38, .int m39, .int m40, .int m41, .ref m42, .int m43, .ref m44, .int m45, .int m46, .int m47, .int m48, .int m49, .ref m50, .ref m51, .ref m52, .ref m53])), (m1, .inl (m1t, 940, .inl m1f)), (m6, .inl (m6t, 283, .inl m6f)), (m7, .inl (m7t, 67, .inl m7f)), (m8, .inl (m8t, 135, .inl m8f)), (m9, .inl (m9t, 36, .inr (.inl m9f))), (m10, .inl (m10t, 21, .inr (.inl m10f))), (m21, .inl (m21t, 280, .inl m21f)), (m22, .inl (m22t, 35, .inl m22f)), (m27, .inl (m27t, 4, .inl m27f)), (m29, .inl (m29t, 5, .inl m29f)), (m32, .inl (m32t, 7, .inl m32f)), (m34, .inl (m34t, 25, .inl m34f)), (m35, .inl (m35t, 25, .inl m35f)), (m38, .inl (m38t, 48, .inl m38f)), (m42, .inl (m42t, 4, .inl m42f)), (m44, .inl (m44t, 45, .inl m44f)), (m50, .inl (m50t, 45, .inl m50f)), (m51, .inl (m51t, 566, .inl m51f)), (m52, .inl (m52t, 36, .inr (.inl m52f))), (m53, .inl (m53t, 2, .inl m53f))] H := hP
  have hD : va_D A [(mo, .inr (11, [.int m0, .ref m1, .int 0, .int m2, .int 0, .int m5, .ref m6, .ref m7, .ref m8, .ref m9, .ref m10, .int m11, .int m12, .int m13, .int m14, .int m15, .int m16, .long m17, .int m18, .int m19, .int m20, .ref m21, .ref m22, .int m23, .int m24, .int m25, .int m26, .ref m27, .int m28, .ref m29, .int m30, .int m31, .ref m32, .int m33, .ref m34, .ref m35, .int m36, .int m37, .ref m38, .int m39, .int m40, .int m41, .ref m42, .int m43, .ref m44, .int m45, .int m46, .int m47, .int m48, .int m49, .ref m50, .ref m51, .ref m52, .ref m53])), (m1, .inl (m1t, 940, .inl m1f)), (m6, .inl (m6t, 283, .inl m6f)), (m7, .inl (m7t, 67, .inl m7f)), (m8, .inl (m8t, 135, .inl m8f)), (m9, .inl (m9t, 36, .inr (.inl m9f))), (m10, .inl (m10t, 21, .inr (.inl m10f))), (m21, .inl (m21t, 280, .inl m21f)), (m22, .inl (m22t, 35, .inl m22f)), (m27, .inl (m27t, 4, .inl m27f)), (m29, .inl (m29t, 5, .inl m29f)), (m32, .inl (m32t, 7, .inl m32f)), (m34, .inl (m34t, 25, .inl m34f)), (m35, .inl (m35t, 25, .inl m35f)), (m38, .inl (m38t, 48, .inl m38f)), (m42, .inl (m42t, 4, .inl m42f)), (m44, .inl (m44t, 45, .inl m44f)), (m50, .inl (m50t, 45, .inl m50f)), (m51, .inl (m51t, 566, .inl m51f)), (m52, .inl (m52t, 36, .inr (.inl m52f))), (m53, .inl (m53t, 2, .inl m53f))] := hD
  refine lv_aload_n hx hb dX12_taken_18 rfl (lv_at hl 0 rfl) ?_
  refine lv_iload_n hx hb dX12_taken_19 rfl (lv_at hl 1 rfl) ?_
  refine va_put (D := D) (ci := 11) (v := .int i0) (ty := tyX12 5) (C := RX12) (T := TX12) (N := 54) hx hb hts hiX12 tyX12 tyX12_ok nmX12 hown hK hP hD hS 0 rfl rfl 5 (by decide) (hts _ (List.mem_of_getElem? (i := 4) rfl)) (fun _ h9 => h9) rfl (tyX12_ok 5 (by decide)) rfl rfl (Nat.le_of_ble_eq_true rfl) dX12_taken_20 (fun H locs hP hD hS => ?_)
  have hP : va_P D vwCl [(mo, .inr (11, [.int m0, .ref m1, .int 0, .int m2, .int 0, .int i0, .ref m6, .ref m7, .ref m8, .ref m9, .ref m10, .int m11, .int m12, .int m13, .int m14, .int m15, .int m16, .long m17, .int m18, .int m19, .int m20, .ref m21, .ref m22, .int m23, .int m24, .int m25, .int m26, .ref m27, .int m28, .ref m29, .int m30, .int m31, .ref m32, .int m33, .ref m34, .ref m35, .int m36, .int m37, .ref m38, .int m39, .int m40, .int m41, .ref m42, .int m43, .ref m44, .int m45, .int m46, .int m47, .int m48, .int m49, .ref m50, .ref m51, .ref m52, .ref m53])), (m1, .inl (m1t, 940, .inl m1f)), (m6, .inl (m6t, 283, .inl m6f)), (m7, .inl (m7t, 67, .inl m7f)), (m8, .inl (m8t, 135, .inl m8f)), (m9, .inl (m9t, 36, .inr (.inl m9f))), (m10, .inl (m10t, 21, .inr (.inl m10f))), (m21, .inl (m21t, 280, .inl m21f)), (m22, .inl (m22t, 35, .inl m22f)), (m27, .inl (m27t, 4, .inl m27f)), (m29, .inl (m29t, 5, .inl m29f)), (m32, .inl (m32t, 7, .inl m32f)), (m34, .inl (m34t, 25, .inl m34f)), (m35, .inl (m35t, 25, .inl m35f)), (m38, .inl (m38t, 48, .inl m38f)), (m42, .inl (m42t, 4, .inl m42f)), (m44, .inl (m44t, 45, .inl m44f)), (m50, .inl (m50t, 45, .inl m50f)), (m51, .inl (m51t, 566, .inl m51f)), (m52, .inl (m52t, 36, .inr (.inl m52f))), (m53, .inl (m53t, 2, .inl m53f))] H := hP
  have hD : va_D A [(mo, .inr (11, [.int m0, .ref m1, .int 0, .int m2, .int 0, .int i0, .ref m6, .ref m7, .ref m8, .ref m9, .ref m10, .int m11, .int m12, .int m13, .int m14, .int m15, .int m16, .long m17, .int m18, .int m19, .int m20, .ref m21, .ref m22, .int m23, .int m24, .int m25, .int m26, .ref m27, .int m28, .ref m29, .int m30, .int m31, .ref m32, .int m33, .ref m34, .ref m35, .int m36, .int m37, .ref m38, .int m39, .int m40, .int m41, .ref m42, .int m43, .ref m44, .int m45, .int m46, .int m47, .int m48, .int m49, .ref m50, .ref m51, .ref m52, .ref m53])), (m1, .inl (m1t, 940, .inl m1f)), (m6, .inl (m6t, 283, .inl m6f)), (m7, .inl (m7t, 67, .inl m7f)), (m8, .inl (m8t, 135, .inl m8f)), (m9, .inl (m9t, 36, .inr (.inl m9f))), (m10, .inl (m10t, 21, .inr (.inl m10f))), (m21, .inl (m21t, 280, .inl m21f)), (m22, .inl (m22t, 35, .inl m22f)), (m27, .inl (m27t, 4, .inl m27f)), (m29, .inl (m29t, 5, .inl m29f)), (m32, .inl (m32t, 7, .inl m32f)), (m34, .inl (m34t, 25, .inl m34f)), (m35, .inl (m35t, 25, .inl m35f)), (m38, .inl (m38t, 48, .inl m38f)), (m42, .inl (m42t, 4, .inl m42f)), (m44, .inl (m44t, 45, .inl m44f)), (m50, .inl (m50t, 45, .inl m50f)), (m51, .inl (m51t, 566, .inl m51f)), (m52, .inl (m52t, 36, .inr (.inl m52f))), (m53, .inl (m53t, 2, .inl m53f))] := hD
  exact hret ([(mo, .inr (11, [.int m0, .ref m1, .int 0, .int m2, .int 0, .int i0, .ref m6, .ref m7, .ref m8, .ref m9, .ref m10, .int m11, .int m12, .int m13, .int m14, .int m15, .int m16, .long m17, .int m18, .int m19, .int m20, .ref m21, .ref m22, .int m23, .int m24, .int m25, .int m26, .ref m27, .int m28, .ref m29, .int m30, .int m31, .ref m32, .int m33, .ref m34, .ref m35, .int m36, .int m37, .ref m38, .int m39, .int m40, .int m41, .ref m42, .int m43, .ref m44, .int m45, .int m46, .int m47, .int m48, .int m49, .ref m50, .ref m51, .ref m52, .ref m53])), (m1, .inl (m1t, 940, .inl m1f)), (m6, .inl (m6t, 283, .inl m6f)), (m7, .inl (m7t, 67, .inl m7f)), (m8, .inl (m8t, 135, .inl m8f)), (m9, .inl (m9t, 36, .inr (.inl m9f))), (m10, .inl (m10t, 21, .inr (.inl m10f))), (m21, .inl (m21t, 280, .inl m21f)), (m22, .inl (m22t, 35, .inl m22f)), (m27, .inl (m27t, 4, .inl m27f)), (m29, .inl (m29t, 5, .inl m29f)), (m32, .inl (m32t, 7, .inl m32f)), (m34, .inl (m34t, 25, .inl m34f)), (m35, .inl (m35t, 25, .inl m35f)), (m38, .inl (m38t, 48, .inl m38f)), (m42, .inl (m42t, 4, .inl m42f)), (m44, .inl (m44t, 45, .inl m44f)), (m50, .inl (m50t, 45, .inl m50f)), (m51, .inl (m51t, 566, .inl m51f)), (m52, .inl (m52t, 36, .inr (.inl m52f))), (m53, .inl (m53t, 2, .inl m53f))], []) _ _ _ _ dX12_taken_23 ⟨0, m2, 0, i0, (z_w (c := 0) (d := 940) (z_lit (x := 0) (a := 0) (b := 0) rfl) rfl), hm2, (z_w (c := 0) (d := 940) (z_lit (x := 0) (a := 0) (b := 0) rfl) rfl), hi0, (show z_tz 0 from rfl), (show z_sz m2 m2 from rfl), (show z_sz i0 i0 from rfl), (show z_z0 0 from rfl), rfl⟩ hP (hK.sub [] rfl) hD hS

set_option maxHeartbeats 8000000 in
set_option maxRecDepth 100000 in
theorem m_octet (l : Launch) (D : va_G) (ad : Nat → Nat) (mo : Nat) (m0 : Int32) (m2 : Int32) (m3 : Int32) (m4 : Int32) (m5 : Int32) (m11 : Int32) (m12 : Int32) (m13 : Int32) (m14 : Int32) (m15 : Int32) (m16 : Int32) (m17 : Int64) (m18 : Int32) (m19 : Int32) (m20 : Int32) (m23 : Int32) (m24 : Int32) (m25 : Int32) (m26 : Int32) (m28 : Int32) (m30 : Int32) (m31 : Int32) (m33 : Int32) (m36 : Int32) (m37 : Int32) (m39 : Int32) (m40 : Int32) (m41 : Int32) (m43 : Int32) (m45 : Int32) (m46 : Int32) (m47 : Int32) (m48 : Int32) (m49 : Int32) (m1 : Nat) (m1t : ClassId) (m1f : Nat → Int32) (m6 : Nat) (m6t : ClassId) (m6f : Nat → Int32) (m7 : Nat) (m7t : ClassId) (m7f : Nat → Int32) (m8 : Nat) (m8t : ClassId) (m8f : Nat → Int32) (m9 : Nat) (m9t : ClassId) (m9f : Nat → Int64) (m10 : Nat) (m10t : ClassId) (m10f : Nat → Int64) (m21 : Nat) (m21t : ClassId) (m21f : Nat → Int32) (m22 : Nat) (m22t : ClassId) (m22f : Nat → Int32) (m27 : Nat) (m27t : ClassId) (m27f : Nat → Int32) (m29 : Nat) (m29t : ClassId) (m29f : Nat → Int32) (m32 : Nat) (m32t : ClassId) (m32f : Nat → Int32) (m34 : Nat) (m34t : ClassId) (m34f : Nat → Int32) (m35 : Nat) (m35t : ClassId) (m35f : Nat → Int32) (m38 : Nat) (m38t : ClassId) (m38f : Nat → Int32) (m42 : Nat) (m42t : ClassId) (m42f : Nat → Int32) (m44 : Nat) (m44t : ClassId) (m44f : Nat → Int32) (m50 : Nat) (m50t : ClassId) (m50f : Nat → Int32) (m51 : Nat) (m51t : ClassId) (m51f : Nat → Int32) (m52 : Nat) (m52t : ClassId) (m52f : Nat → Int64) (m53 : Nat) (m53t : ClassId) (m53f : Nat → Int32) (i0 : Int32) (hm2 : z_in 0 940 m2) (hm3 : z_in 0 940 m3) (hm4 : z_in 0 940 m4) (hm5 : z_in 0 940 m5) (hm11 : z_in 0 4 m11) (hm20 : z_in 0 1 m20) (hm23 : z_in 0 8 m23) (hm26 : z_in 0 1 m26) (hm28 : z_in (-1) 4 m28) (hm31 : z_in 0 1 m31) (hm33 : z_in (-1) 7 m33) (hm37 : z_in 0 1 m37) (hm39 : z_in 0 48 m39) (hm41 : z_in 0 40 m41) (hm43 : z_in 0 1 m43) (hm45 : z_in 0 45 m45) (hm46 : z_in 0 20 m46) (hm47 : z_in 0 45 m47) (hm49 : z_in 0 1 m49) (hm6f : z_sr m6f) (hm7f : z_hr m7f) (hm21f : z_ar rgU m21f) (hm22f : z_ar rgB m22f) (hm27f : z_al 0 4 m27f) (hm32f : z_al 0 4 m32f) (hm34f : z_al 0 1 m34f) (hm35f : z_al 0 1 m35f) (hm50f : z_al 0 1 m50f) (hm51f : z_ir m51f) (hm53f : z_al 0 1 m53f) (hi0 : z_in 0 939 i0) : z_Mi l yX12_octet wsX12_octet { frames := 0, cells := 0, slots := 0, locals := 0 } D ad [.ref mo, .int i0] [(mo, .inr (11, [.int m0, .ref m1, .int m2, .int m3, .int m4, .int m5, .ref m6, .ref m7, .ref m8, .ref m9, .ref m10, .int m11, .int m12, .int m13, .int m14, .int m15, .int m16, .long m17, .int m18, .int m19, .int m20, .ref m21, .ref m22, .int m23, .int m24, .int m25, .int m26, .ref m27, .int m28, .ref m29, .int m30, .int m31, .ref m32, .int m33, .ref m34, .ref m35, .int m36, .int m37, .ref m38, .int m39, .int m40, .int m41, .ref m42, .int m43, .ref m44, .int m45, .int m46, .int m47, .int m48, .int m49, .ref m50, .ref m51, .ref m52, .ref m53])), (m1, .inl (m1t, 940, .inl m1f)), (m6, .inl (m6t, 283, .inl m6f)), (m7, .inl (m7t, 67, .inl m7f)), (m8, .inl (m8t, 135, .inl m8f)), (m9, .inl (m9t, 36, .inr (.inl m9f))), (m10, .inl (m10t, 21, .inr (.inl m10f))), (m21, .inl (m21t, 280, .inl m21f)), (m22, .inl (m22t, 35, .inl m22f)), (m27, .inl (m27t, 4, .inl m27f)), (m29, .inl (m29t, 5, .inl m29f)), (m32, .inl (m32t, 7, .inl m32f)), (m34, .inl (m34t, 25, .inl m34f)), (m35, .inl (m35t, 25, .inl m35f)), (m38, .inl (m38t, 48, .inl m38f)), (m42, .inl (m42t, 4, .inl m42f)), (m44, .inl (m44t, 45, .inl m44f)), (m50, .inl (m50t, 45, .inl m50f)), (m51, .inl (m51t, 566, .inl m51f)), (m52, .inl (m52t, 36, .inr (.inl m52f))), (m53, .inl (m53t, 2, .inl m53f))] [(m1t, .byte), (m6t, .int), (m7t, .int), (m8t, .int), (m9t, .long), (m10t, .long), (m21t, .int), (m22t, .int), (m27t, .int), (m29t, .int), (m32t, .int), (m34t, .boolean), (m35t, .boolean), (m38t, .byte), (m42t, .int), (m44t, .int), (m50t, .boolean), (m51t, .int), (m52t, .long), (m53t, .boolean)] 0 0 (fun r9 u9 => z_in 0 255 r9 ∧ z_oc r9 m1f i0 ∧ u9 = ([(mo, .inr (11, [.int m0, .ref m1, .int m2, .int m3, .int m4, .int m5, .ref m6, .ref m7, .ref m8, .ref m9, .ref m10, .int m11, .int m12, .int m13, .int m14, .int m15, .int m16, .long m17, .int m18, .int m19, .int m20, .ref m21, .ref m22, .int m23, .int m24, .int m25, .int m26, .ref m27, .int m28, .ref m29, .int m30, .int m31, .ref m32, .int m33, .ref m34, .ref m35, .int m36, .int m37, .ref m38, .int m39, .int m40, .int m41, .ref m42, .int m43, .ref m44, .int m45, .int m46, .int m47, .int m48, .int m49, .ref m50, .ref m51, .ref m52, .ref m53])), (m1, .inl (m1t, 940, .inl m1f)), (m6, .inl (m6t, 283, .inl m6f)), (m7, .inl (m7t, 67, .inl m7f)), (m8, .inl (m8t, 135, .inl m8f)), (m9, .inl (m9t, 36, .inr (.inl m9f))), (m10, .inl (m10t, 21, .inr (.inl m10f))), (m21, .inl (m21t, 280, .inl m21f)), (m22, .inl (m22t, 35, .inl m22f)), (m27, .inl (m27t, 4, .inl m27f)), (m29, .inl (m29t, 5, .inl m29f)), (m32, .inl (m32t, 7, .inl m32f)), (m34, .inl (m34t, 25, .inl m34f)), (m35, .inl (m35t, 25, .inl m35f)), (m38, .inl (m38t, 48, .inl m38f)), (m42, .inl (m42t, 4, .inl m42f)), (m44, .inl (m44t, 45, .inl m44f)), (m50, .inl (m50t, 45, .inl m50f)), (m51, .inl (m51t, 566, .inl m51f)), (m52, .inl (m52t, 36, .inr (.inl m52f))), (m53, .inl (m53t, 2, .inl m53f))], [])) := by
  refine z_ofI (cc := cX12_octet) (maxL := 2) (rt := .int) (by decide) rfl (Nat.le_of_ble_eq_true rfl) ?_
  intro p e s m below meth c Q A ls hx hb hml hown hts hin hK hP hD hA hE hO hS hl hret
  have hown : s.vm.findClass RX12 = some m.cls := hown
  have hiX12 : ∀ w ∈ wsX120, w ∈ wsX12_octet := fun _ h9 => List.mem_cons_of_mem _ (List.mem_append_right _ h9)
  have hl : lv_has ls 2 [(0, .ref mo), (1, .int i0)] := hl
  refine lv_aload_n hx hb dX12_octet_0 rfl (lv_at hl 0 rfl) ?_
  refine va_get (D := D) (ci := 11) (v := .ref m1) (C := RX12) (T := TX12) (N := 54) hx hb hts hiX12 hown hK hP 0 rfl rfl 1 (by decide) (hts _ (List.mem_of_getElem? (i := 1) rfl)) (fun _ h9 => h9) rfl dX12_octet_1 ?_
  refine lv_iload_n hx hb dX12_octet_4 rfl (lv_at hl 1 rfl) ?_
  refine va_bald hx hb hK hP 1 0 rfl rfl (z_vp hi0 rfl) dX12_octet_5 ?_
  refine lv_topi (fun y_1 ey_1 => ?_)
  refine lv_sipush (v := 255) hx hb dX12_octet_6 (by decide) ?_
  refine lv_iand hx hb dX12_octet_9 ?_
  refine lv_topi (fun y_2 ey_2 => ?_)
  have h_3 : z_in 0 255 y_2 := by rw [ey_2]; exact z_andR (z_lit (x := 255) (a := 255) (b := 255) rfl) rfl
  exact hret y_2 ([(mo, .inr (11, [.int m0, .ref m1, .int m2, .int m3, .int m4, .int m5, .ref m6, .ref m7, .ref m8, .ref m9, .ref m10, .int m11, .int m12, .int m13, .int m14, .int m15, .int m16, .long m17, .int m18, .int m19, .int m20, .ref m21, .ref m22, .int m23, .int m24, .int m25, .int m26, .ref m27, .int m28, .ref m29, .int m30, .int m31, .ref m32, .int m33, .ref m34, .ref m35, .int m36, .int m37, .ref m38, .int m39, .int m40, .int m41, .ref m42, .int m43, .ref m44, .int m45, .int m46, .int m47, .int m48, .int m49, .ref m50, .ref m51, .ref m52, .ref m53])), (m1, .inl (m1t, 940, .inl m1f)), (m6, .inl (m6t, 283, .inl m6f)), (m7, .inl (m7t, 67, .inl m7f)), (m8, .inl (m8t, 135, .inl m8f)), (m9, .inl (m9t, 36, .inr (.inl m9f))), (m10, .inl (m10t, 21, .inr (.inl m10f))), (m21, .inl (m21t, 280, .inl m21f)), (m22, .inl (m22t, 35, .inl m22f)), (m27, .inl (m27t, 4, .inl m27f)), (m29, .inl (m29t, 5, .inl m29f)), (m32, .inl (m32t, 7, .inl m32f)), (m34, .inl (m34t, 25, .inl m34f)), (m35, .inl (m35t, 25, .inl m35f)), (m38, .inl (m38t, 48, .inl m38f)), (m42, .inl (m42t, 4, .inl m42f)), (m44, .inl (m44t, 45, .inl m44f)), (m50, .inl (m50t, 45, .inl m50f)), (m51, .inl (m51t, 566, .inl m51f)), (m52, .inl (m52t, 36, .inr (.inl m52f))), (m53, .inl (m53t, 2, .inl m53f))], []) _ _ _ _ dX12_octet_10 rfl ⟨h_3, (z_ocI ey_1 ey_2), rfl⟩ hP (hK.sub [] rfl) hD hS

set_option maxHeartbeats 8000000 in
set_option maxRecDepth 100000 in
theorem m_clears (l : Launch) (D : va_G) (ad : Nat → Nat) (mo : Nat) (m0 : Int32) (m2 : Int32) (m3 : Int32) (m4 : Int32) (m5 : Int32) (m11 : Int32) (m12 : Int32) (m13 : Int32) (m14 : Int32) (m15 : Int32) (m16 : Int32) (m17 : Int64) (m18 : Int32) (m19 : Int32) (m20 : Int32) (m23 : Int32) (m24 : Int32) (m25 : Int32) (m26 : Int32) (m28 : Int32) (m30 : Int32) (m31 : Int32) (m33 : Int32) (m36 : Int32) (m37 : Int32) (m39 : Int32) (m40 : Int32) (m41 : Int32) (m43 : Int32) (m45 : Int32) (m46 : Int32) (m47 : Int32) (m48 : Int32) (m49 : Int32) (m1 : Nat) (m1t : ClassId) (m1f : Nat → Int32) (m6 : Nat) (m6t : ClassId) (m6f : Nat → Int32) (m7 : Nat) (m7t : ClassId) (m7f : Nat → Int32) (m8 : Nat) (m8t : ClassId) (m8f : Nat → Int32) (m9 : Nat) (m9t : ClassId) (m9f : Nat → Int64) (m10 : Nat) (m10t : ClassId) (m10f : Nat → Int64) (m21 : Nat) (m21t : ClassId) (m21f : Nat → Int32) (m22 : Nat) (m22t : ClassId) (m22f : Nat → Int32) (m27 : Nat) (m27t : ClassId) (m27f : Nat → Int32) (m29 : Nat) (m29t : ClassId) (m29f : Nat → Int32) (m32 : Nat) (m32t : ClassId) (m32f : Nat → Int32) (m34 : Nat) (m34t : ClassId) (m34f : Nat → Int32) (m35 : Nat) (m35t : ClassId) (m35f : Nat → Int32) (m38 : Nat) (m38t : ClassId) (m38f : Nat → Int32) (m42 : Nat) (m42t : ClassId) (m42f : Nat → Int32) (m44 : Nat) (m44t : ClassId) (m44f : Nat → Int32) (m50 : Nat) (m50t : ClassId) (m50f : Nat → Int32) (m51 : Nat) (m51t : ClassId) (m51f : Nat → Int32) (m52 : Nat) (m52t : ClassId) (m52f : Nat → Int64) (m53 : Nat) (m53t : ClassId) (m53f : Nat → Int32) (hm2 : z_in 0 940 m2) (hm3 : z_in 0 940 m3) (hm4 : z_in 0 940 m4) (hm5 : z_in 0 940 m5) (hm11 : z_in 0 4 m11) (hm20 : z_in 0 1 m20) (hm23 : z_in 0 8 m23) (hm26 : z_in 0 1 m26) (hm28 : z_in (-1) 4 m28) (hm31 : z_in 0 1 m31) (hm33 : z_in (-1) 7 m33) (hm37 : z_in 0 1 m37) (hm39 : z_in 0 48 m39) (hm41 : z_in 0 40 m41) (hm43 : z_in 0 1 m43) (hm45 : z_in 0 45 m45) (hm46 : z_in 0 20 m46) (hm47 : z_in 0 45 m47) (hm49 : z_in 0 1 m49) (hm6f : z_sr m6f) (hm7f : z_hr m7f) (hm21f : z_ar rgU m21f) (hm22f : z_ar rgB m22f) (hm27f : z_al 0 4 m27f) (hm32f : z_al 0 4 m32f) (hm34f : z_al 0 1 m34f) (hm35f : z_al 0 1 m35f) (hm50f : z_al 0 1 m50f) (hm51f : z_ir m51f) (hm53f : z_al 0 1 m53f) : z_Mv l yX12_clears wsX12_clears { frames := 0, cells := 0, slots := 0, locals := 0 } D ad [.ref mo] [(mo, .inr (11, [.int m0, .ref m1, .int m2, .int m3, .int m4, .int m5, .ref m6, .ref m7, .ref m8, .ref m9, .ref m10, .int m11, .int m12, .int m13, .int m14, .int m15, .int m16, .long m17, .int m18, .int m19, .int m20, .ref m21, .ref m22, .int m23, .int m24, .int m25, .int m26, .ref m27, .int m28, .ref m29, .int m30, .int m31, .ref m32, .int m33, .ref m34, .ref m35, .int m36, .int m37, .ref m38, .int m39, .int m40, .int m41, .ref m42, .int m43, .ref m44, .int m45, .int m46, .int m47, .int m48, .int m49, .ref m50, .ref m51, .ref m52, .ref m53])), (m1, .inl (m1t, 940, .inl m1f)), (m6, .inl (m6t, 283, .inl m6f)), (m7, .inl (m7t, 67, .inl m7f)), (m8, .inl (m8t, 135, .inl m8f)), (m9, .inl (m9t, 36, .inr (.inl m9f))), (m10, .inl (m10t, 21, .inr (.inl m10f))), (m21, .inl (m21t, 280, .inl m21f)), (m22, .inl (m22t, 35, .inl m22f)), (m27, .inl (m27t, 4, .inl m27f)), (m29, .inl (m29t, 5, .inl m29f)), (m32, .inl (m32t, 7, .inl m32f)), (m34, .inl (m34t, 25, .inl m34f)), (m35, .inl (m35t, 25, .inl m35f)), (m38, .inl (m38t, 48, .inl m38f)), (m42, .inl (m42t, 4, .inl m42f)), (m44, .inl (m44t, 45, .inl m44f)), (m50, .inl (m50t, 45, .inl m50f)), (m51, .inl (m51t, 566, .inl m51f)), (m52, .inl (m52t, 36, .inr (.inl m52f))), (m53, .inl (m53t, 2, .inl m53f))] [(m1t, .byte), (m6t, .int), (m7t, .int), (m8t, .int), (m9t, .long), (m10t, .long), (m21t, .int), (m22t, .int), (m27t, .int), (m29t, .int), (m32t, .int), (m34t, .boolean), (m35t, .boolean), (m38t, .byte), (m42t, .int), (m44t, .int), (m50t, .boolean), (m51t, .int), (m52t, .long), (m53t, .boolean)] 0 0 (fun u9 => ∃ (x3_f : Nat → Int32), z_hr x3_f ∧ z_hc5 x3_f ∧ u9 = ([(mo, .inr (11, [.int m0, .ref m1, .int m2, .int m3, .int m4, .int m5, .ref m6, .ref m7, .ref m8, .ref m9, .ref m10, .int m11, .int m12, .int m13, .int m14, .int m15, .int m16, .long m17, .int m18, .int m19, .int m20, .ref m21, .ref m22, .int m23, .int m24, .int m25, .int m26, .ref m27, .int m28, .ref m29, .int m30, .int m31, .ref m32, .int m33, .ref m34, .ref m35, .int m36, .int m37, .ref m38, .int m39, .int m40, .int m41, .ref m42, .int m43, .ref m44, .int m45, .int m46, .int m47, .int m48, .int m49, .ref m50, .ref m51, .ref m52, .ref m53])), (m1, .inl (m1t, 940, .inl m1f)), (m6, .inl (m6t, 283, .inl m6f)), (m7, .inl (m7t, 67, .inl x3_f)), (m8, .inl (m8t, 135, .inl m8f)), (m9, .inl (m9t, 36, .inr (.inl m9f))), (m10, .inl (m10t, 21, .inr (.inl m10f))), (m21, .inl (m21t, 280, .inl m21f)), (m22, .inl (m22t, 35, .inl m22f)), (m27, .inl (m27t, 4, .inl m27f)), (m29, .inl (m29t, 5, .inl m29f)), (m32, .inl (m32t, 7, .inl m32f)), (m34, .inl (m34t, 25, .inl m34f)), (m35, .inl (m35t, 25, .inl m35f)), (m38, .inl (m38t, 48, .inl m38f)), (m42, .inl (m42t, 4, .inl m42f)), (m44, .inl (m44t, 45, .inl m44f)), (m50, .inl (m50t, 45, .inl m50f)), (m51, .inl (m51t, 566, .inl m51f)), (m52, .inl (m52t, 36, .inr (.inl m52f))), (m53, .inl (m53t, 2, .inl m53f))], [])) := by
  refine z_ofV (cc := cX12_clears) (maxL := 2) (by decide) rfl (Nat.le_of_ble_eq_true rfl) ?_
  intro p e s m below meth c Q A ls hx hb hml hown hts hin hK hP hD hA hE hO hS hl hret
  have hown : s.vm.findClass RX12 = some m.cls := hown
  have hiX12 : ∀ w ∈ wsX120, w ∈ wsX12_clears := fun _ h9 => List.mem_cons_of_mem _ (List.mem_append_right _ h9)
  have hl : lv_has ls 2 [(0, .ref mo)] := hl
  refine lv_iconst (v := 0) hx hb dX12_clears_0 (by decide) ?_
  refine lv_istore_n (lv' := [(1, .int 0), (0, .ref mo)]) hx hb dX12_clears_1 rfl hl (by decide) rfl (fun ls hl => ?_)
  have LP1 : ∀ (n : Nat) (v1_1 : Int32) (g1_1 : Nat → Int32) (H : Heap) (locs : List Loc) (ls : Array Slot), z_in 0 67 v1_1 → z_ar rgH g1_1 → z_zr g1_1 v1_1 → 68 - v1_1.toInt ≤ (n : Int) → va_P D vwCl [(mo, .inr (11, [.int m0, .ref m1, .int m2, .int m3, .int m4, .int m5, .ref m6, .ref m7, .ref m8, .ref m9, .ref m10, .int m11, .int m12, .int m13, .int m14, .int m15, .int m16, .long m17, .int m18, .int m19, .int m20, .ref m21, .ref m22, .int m23, .int m24, .int m25, .int m26, .ref m27, .int m28, .ref m29, .int m30, .int m31, .ref m32, .int m33, .ref m34, .ref m35, .int m36, .int m37, .ref m38, .int m39, .int m40, .int m41, .ref m42, .int m43, .ref m44, .int m45, .int m46, .int m47, .int m48, .int m49, .ref m50, .ref m51, .ref m52, .ref m53])), (m1, .inl (m1t, 940, .inl m1f)), (m6, .inl (m6t, 283, .inl m6f)), (m7, .inl (m7t, 67, .inl g1_1)), (m8, .inl (m8t, 135, .inl m8f)), (m9, .inl (m9t, 36, .inr (.inl m9f))), (m10, .inl (m10t, 21, .inr (.inl m10f))), (m21, .inl (m21t, 280, .inl m21f)), (m22, .inl (m22t, 35, .inl m22f)), (m27, .inl (m27t, 4, .inl m27f)), (m29, .inl (m29t, 5, .inl m29f)), (m32, .inl (m32t, 7, .inl m32f)), (m34, .inl (m34t, 25, .inl m34f)), (m35, .inl (m35t, 25, .inl m35f)), (m38, .inl (m38t, 48, .inl m38f)), (m42, .inl (m42t, 4, .inl m42f)), (m44, .inl (m44t, 45, .inl m44f)), (m50, .inl (m50t, 45, .inl m50f)), (m51, .inl (m51t, 566, .inl m51f)), (m52, .inl (m52t, 36, .inr (.inl m52f))), (m53, .inl (m53t, 2, .inl m53f))] H → va_D A [(mo, .inr (11, [.int m0, .ref m1, .int m2, .int m3, .int m4, .int m5, .ref m6, .ref m7, .ref m8, .ref m9, .ref m10, .int m11, .int m12, .int m13, .int m14, .int m15, .int m16, .long m17, .int m18, .int m19, .int m20, .ref m21, .ref m22, .int m23, .int m24, .int m25, .int m26, .ref m27, .int m28, .ref m29, .int m30, .int m31, .ref m32, .int m33, .ref m34, .ref m35, .int m36, .int m37, .ref m38, .int m39, .int m40, .int m41, .ref m42, .int m43, .ref m44, .int m45, .int m46, .int m47, .int m48, .int m49, .ref m50, .ref m51, .ref m52, .ref m53])), (m1, .inl (m1t, 940, .inl m1f)), (m6, .inl (m6t, 283, .inl m6f)), (m7, .inl (m7t, 67, .inl g1_1)), (m8, .inl (m8t, 135, .inl m8f)), (m9, .inl (m9t, 36, .inr (.inl m9f))), (m10, .inl (m10t, 21, .inr (.inl m10f))), (m21, .inl (m21t, 280, .inl m21f)), (m22, .inl (m22t, 35, .inl m22f)), (m27, .inl (m27t, 4, .inl m27f)), (m29, .inl (m29t, 5, .inl m29f)), (m32, .inl (m32t, 7, .inl m32f)), (m34, .inl (m34t, 25, .inl m34f)), (m35, .inl (m35t, 25, .inl m35f)), (m38, .inl (m38t, 48, .inl m38f)), (m42, .inl (m42t, 4, .inl m42f)), (m44, .inl (m44t, 45, .inl m44f)), (m50, .inl (m50t, 45, .inl m50f)), (m51, .inl (m51t, 566, .inl m51f)), (m52, .inl (m52t, 36, .inr (.inl m52f))), (m53, .inl (m53t, 2, .inl m53f))] → va_S A s.heap H locs → lv_has ls 2 [(1, .int v1_1), (0, .ref mo)] → W p l e ({ frames := 0, cells := 0, slots := 0, locals := 0 }) s m ([.ref mo] : List Value).toArray below meth c H locs 0 0 Q (F0 m 2 ls []) := by
    intro n
    induction n with
    | zero => intro v1_1 g1_1 H locs ls hv1_1 hg1_1 hI1_0 hn1; exact absurd hn1 (by have q1 := hv1_1.1; have q2 := hv1_1.2; omega)
    | succ n ih1 =>
      intro v1_1 g1_1 H locs ls hv1_1 hg1_1 hI1_0 hn1 hP hD hS hl
      have q1 := hv1_1.1
      have q1' := hv1_1.2
      refine lv_iload_n hx hb dX12_clears_2 rfl (lv_at hl 0 rfl) ?_
      refine lv_bipush (v := 67) hx hb dX12_clears_3 (by decide) ?_
      refine lv_icmp_ge (tgt := 21) hx hb dX12_clears_5 (by decide) (fun c_1 => ?_) (fun c_1 => ?_)
      · skip
        have h_2 : z_in 67 67 v1_1 := z_leR c_1 (z_lit (x := 67) (a := 67) (b := 67) rfl) hv1_1 rfl
        have h_3 : z_hr g1_1 := z_zrE hI1_0 hg1_1 h_2
        refine lv_aload_n hx hb dX12_clears_21 rfl (lv_at hl 1 rfl) ?_
        refine va_get (D := D) (ci := 11) (v := .ref m7) (C := RX12) (T := TX12) (N := 54) hx hb hts hiX12 hown hK hP 0 rfl rfl 7 (by decide) (hts _ (List.mem_of_getElem? (i := 1) rfl)) (fun _ h9 => h9) rfl dX12_clears_22 ?_
        refine lv_iconst (v := 4) hx hb dX12_clears_25 (by decide) ?_
        refine lv_iconst (v := 2) hx hb dX12_clears_26 (by decide) ?_
        refine va_iast hx hb hK hP hD hS 3 2 rfl rfl (z_vp (z_lit (x := 4) (a := 4) (b := 4) rfl) rfl) dX12_clears_27 (fun H locs hP hD hS => ?_)
        have h_5 : z_hr (upd g1_1 (4 : Int32).toNatClampNeg 2) := z_hrw h_3 (z_aru h_3.1 (z_lit (x := 4) (a := 4) (b := 4) rfl) (z_lit (x := 2) (a := 2) (b := 2) rfl) rfl) (z_lit (x := 4) (a := 4) (b := 4) rfl) rfl
        generalize ef_4 : (upd g1_1 (4 : Int32).toNatClampNeg 2) = f_4 at hP hD h_5
        have hP : va_P D vwCl [(mo, .inr (11, [.int m0, .ref m1, .int m2, .int m3, .int m4, .int m5, .ref m6, .ref m7, .ref m8, .ref m9, .ref m10, .int m11, .int m12, .int m13, .int m14, .int m15, .int m16, .long m17, .int m18, .int m19, .int m20, .ref m21, .ref m22, .int m23, .int m24, .int m25, .int m26, .ref m27, .int m28, .ref m29, .int m30, .int m31, .ref m32, .int m33, .ref m34, .ref m35, .int m36, .int m37, .ref m38, .int m39, .int m40, .int m41, .ref m42, .int m43, .ref m44, .int m45, .int m46, .int m47, .int m48, .int m49, .ref m50, .ref m51, .ref m52, .ref m53])), (m1, .inl (m1t, 940, .inl m1f)), (m6, .inl (m6t, 283, .inl m6f)), (m7, .inl (m7t, 67, .inl f_4)), (m8, .inl (m8t, 135, .inl m8f)), (m9, .inl (m9t, 36, .inr (.inl m9f))), (m10, .inl (m10t, 21, .inr (.inl m10f))), (m21, .inl (m21t, 280, .inl m21f)), (m22, .inl (m22t, 35, .inl m22f)), (m27, .inl (m27t, 4, .inl m27f)), (m29, .inl (m29t, 5, .inl m29f)), (m32, .inl (m32t, 7, .inl m32f)), (m34, .inl (m34t, 25, .inl m34f)), (m35, .inl (m35t, 25, .inl m35f)), (m38, .inl (m38t, 48, .inl m38f)), (m42, .inl (m42t, 4, .inl m42f)), (m44, .inl (m44t, 45, .inl m44f)), (m50, .inl (m50t, 45, .inl m50f)), (m51, .inl (m51t, 566, .inl m51f)), (m52, .inl (m52t, 36, .inr (.inl m52f))), (m53, .inl (m53t, 2, .inl m53f))] H := hP
        have hD : va_D A [(mo, .inr (11, [.int m0, .ref m1, .int m2, .int m3, .int m4, .int m5, .ref m6, .ref m7, .ref m8, .ref m9, .ref m10, .int m11, .int m12, .int m13, .int m14, .int m15, .int m16, .long m17, .int m18, .int m19, .int m20, .ref m21, .ref m22, .int m23, .int m24, .int m25, .int m26, .ref m27, .int m28, .ref m29, .int m30, .int m31, .ref m32, .int m33, .ref m34, .ref m35, .int m36, .int m37, .ref m38, .int m39, .int m40, .int m41, .ref m42, .int m43, .ref m44, .int m45, .int m46, .int m47, .int m48, .int m49, .ref m50, .ref m51, .ref m52, .ref m53])), (m1, .inl (m1t, 940, .inl m1f)), (m6, .inl (m6t, 283, .inl m6f)), (m7, .inl (m7t, 67, .inl f_4)), (m8, .inl (m8t, 135, .inl m8f)), (m9, .inl (m9t, 36, .inr (.inl m9f))), (m10, .inl (m10t, 21, .inr (.inl m10f))), (m21, .inl (m21t, 280, .inl m21f)), (m22, .inl (m22t, 35, .inl m22f)), (m27, .inl (m27t, 4, .inl m27f)), (m29, .inl (m29t, 5, .inl m29f)), (m32, .inl (m32t, 7, .inl m32f)), (m34, .inl (m34t, 25, .inl m34f)), (m35, .inl (m35t, 25, .inl m35f)), (m38, .inl (m38t, 48, .inl m38f)), (m42, .inl (m42t, 4, .inl m42f)), (m44, .inl (m44t, 45, .inl m44f)), (m50, .inl (m50t, 45, .inl m50f)), (m51, .inl (m51t, 566, .inl m51f)), (m52, .inl (m52t, 36, .inr (.inl m52f))), (m53, .inl (m53t, 2, .inl m53f))] := hD
        exact hret ([(mo, .inr (11, [.int m0, .ref m1, .int m2, .int m3, .int m4, .int m5, .ref m6, .ref m7, .ref m8, .ref m9, .ref m10, .int m11, .int m12, .int m13, .int m14, .int m15, .int m16, .long m17, .int m18, .int m19, .int m20, .ref m21, .ref m22, .int m23, .int m24, .int m25, .int m26, .ref m27, .int m28, .ref m29, .int m30, .int m31, .ref m32, .int m33, .ref m34, .ref m35, .int m36, .int m37, .ref m38, .int m39, .int m40, .int m41, .ref m42, .int m43, .ref m44, .int m45, .int m46, .int m47, .int m48, .int m49, .ref m50, .ref m51, .ref m52, .ref m53])), (m1, .inl (m1t, 940, .inl m1f)), (m6, .inl (m6t, 283, .inl m6f)), (m7, .inl (m7t, 67, .inl f_4)), (m8, .inl (m8t, 135, .inl m8f)), (m9, .inl (m9t, 36, .inr (.inl m9f))), (m10, .inl (m10t, 21, .inr (.inl m10f))), (m21, .inl (m21t, 280, .inl m21f)), (m22, .inl (m22t, 35, .inl m22f)), (m27, .inl (m27t, 4, .inl m27f)), (m29, .inl (m29t, 5, .inl m29f)), (m32, .inl (m32t, 7, .inl m32f)), (m34, .inl (m34t, 25, .inl m34f)), (m35, .inl (m35t, 25, .inl m35f)), (m38, .inl (m38t, 48, .inl m38f)), (m42, .inl (m42t, 4, .inl m42f)), (m44, .inl (m44t, 45, .inl m44f)), (m50, .inl (m50t, 45, .inl m50f)), (m51, .inl (m51t, 566, .inl m51f)), (m52, .inl (m52t, 36, .inr (.inl m52f))), (m53, .inl (m53t, 2, .inl m53f))], []) _ _ _ _ dX12_clears_28 ⟨f_4, h_5, (z_hc5I hI1_0 (z_w (c := 67) (d := 2147483647) h_2 rfl) ef_4), rfl⟩ hP (hK.sub [] rfl) hD hS
      · skip
        have h_6 : z_in 0 66 v1_1 := z_ltL (Int32.not_le.mp c_1) hv1_1 (z_lit (x := 67) (a := 67) (b := 67) rfl) rfl
        refine lv_aload_n hx hb dX12_clears_8 rfl (lv_at hl 1 rfl) ?_
        refine va_get (D := D) (ci := 11) (v := .ref m7) (C := RX12) (T := TX12) (N := 54) hx hb hts hiX12 hown hK hP 0 rfl rfl 7 (by decide) (hts _ (List.mem_of_getElem? (i := 1) rfl)) (fun _ h9 => h9) rfl dX12_clears_9 ?_
        refine lv_iload_n hx hb dX12_clears_12 rfl (lv_at hl 0 rfl) ?_
        refine lv_iconst (v := 0) hx hb dX12_clears_13 (by decide) ?_
        refine va_iast hx hb hK hP hD hS 3 2 rfl rfl (z_vp h_6 rfl) dX12_clears_14 (fun H locs hP hD hS => ?_)
        have h_8 : z_ar rgH (upd g1_1 (v1_1 : Int32).toNatClampNeg 0) := z_aru hg1_1 h_6 (z_lit (x := 0) (a := 0) (b := 0) rfl) rfl
        generalize ef_7 : (upd g1_1 (v1_1 : Int32).toNatClampNeg 0) = f_7 at hP hD h_8
        have hP : va_P D vwCl [(mo, .inr (11, [.int m0, .ref m1, .int m2, .int m3, .int m4, .int m5, .ref m6, .ref m7, .ref m8, .ref m9, .ref m10, .int m11, .int m12, .int m13, .int m14, .int m15, .int m16, .long m17, .int m18, .int m19, .int m20, .ref m21, .ref m22, .int m23, .int m24, .int m25, .int m26, .ref m27, .int m28, .ref m29, .int m30, .int m31, .ref m32, .int m33, .ref m34, .ref m35, .int m36, .int m37, .ref m38, .int m39, .int m40, .int m41, .ref m42, .int m43, .ref m44, .int m45, .int m46, .int m47, .int m48, .int m49, .ref m50, .ref m51, .ref m52, .ref m53])), (m1, .inl (m1t, 940, .inl m1f)), (m6, .inl (m6t, 283, .inl m6f)), (m7, .inl (m7t, 67, .inl f_7)), (m8, .inl (m8t, 135, .inl m8f)), (m9, .inl (m9t, 36, .inr (.inl m9f))), (m10, .inl (m10t, 21, .inr (.inl m10f))), (m21, .inl (m21t, 280, .inl m21f)), (m22, .inl (m22t, 35, .inl m22f)), (m27, .inl (m27t, 4, .inl m27f)), (m29, .inl (m29t, 5, .inl m29f)), (m32, .inl (m32t, 7, .inl m32f)), (m34, .inl (m34t, 25, .inl m34f)), (m35, .inl (m35t, 25, .inl m35f)), (m38, .inl (m38t, 48, .inl m38f)), (m42, .inl (m42t, 4, .inl m42f)), (m44, .inl (m44t, 45, .inl m44f)), (m50, .inl (m50t, 45, .inl m50f)), (m51, .inl (m51t, 566, .inl m51f)), (m52, .inl (m52t, 36, .inr (.inl m52f))), (m53, .inl (m53t, 2, .inl m53f))] H := hP
        have hD : va_D A [(mo, .inr (11, [.int m0, .ref m1, .int m2, .int m3, .int m4, .int m5, .ref m6, .ref m7, .ref m8, .ref m9, .ref m10, .int m11, .int m12, .int m13, .int m14, .int m15, .int m16, .long m17, .int m18, .int m19, .int m20, .ref m21, .ref m22, .int m23, .int m24, .int m25, .int m26, .ref m27, .int m28, .ref m29, .int m30, .int m31, .ref m32, .int m33, .ref m34, .ref m35, .int m36, .int m37, .ref m38, .int m39, .int m40, .int m41, .ref m42, .int m43, .ref m44, .int m45, .int m46, .int m47, .int m48, .int m49, .ref m50, .ref m51, .ref m52, .ref m53])), (m1, .inl (m1t, 940, .inl m1f)), (m6, .inl (m6t, 283, .inl m6f)), (m7, .inl (m7t, 67, .inl f_7)), (m8, .inl (m8t, 135, .inl m8f)), (m9, .inl (m9t, 36, .inr (.inl m9f))), (m10, .inl (m10t, 21, .inr (.inl m10f))), (m21, .inl (m21t, 280, .inl m21f)), (m22, .inl (m22t, 35, .inl m22f)), (m27, .inl (m27t, 4, .inl m27f)), (m29, .inl (m29t, 5, .inl m29f)), (m32, .inl (m32t, 7, .inl m32f)), (m34, .inl (m34t, 25, .inl m34f)), (m35, .inl (m35t, 25, .inl m35f)), (m38, .inl (m38t, 48, .inl m38f)), (m42, .inl (m42t, 4, .inl m42f)), (m44, .inl (m44t, 45, .inl m44f)), (m50, .inl (m50t, 45, .inl m50f)), (m51, .inl (m51t, 566, .inl m51f)), (m52, .inl (m52t, 36, .inr (.inl m52f))), (m53, .inl (m53t, 2, .inl m53f))] := hD
        obtain ⟨y_9, ey_9⟩ : ∃ y : Int32, y = v1_1 + 1 := ⟨_, rfl⟩
        have h_10 : z_in 1 67 y_9 := by rw [ey_9]; exact z_add h_6 (z_lit (x := 1) (a := 1) (b := 1) rfl) rfl rfl
        have ty_9 : y_9.toInt = v1_1.toInt + 1 := by rw [ey_9]; exact z_addT h_6 (z_lit (x := 1) (a := 1) (b := 1) rfl) rfl
        refine lv_iinc (v := y_9) (lv' := [(1, .int y_9), (0, .ref mo)]) hx hb dX12_clears_15 hl (k := 0) rfl (by rw [ey_9]; rfl) (by decide) rfl (fun ls hl => ?_)
        refine lv_goto (tgt := 2) hx hb dX12_clears_18 (by decide) ?_
        exact ih1 y_9 f_7 _ _ _ (z_w (c := 0) (d := 67) h_10 rfl) h_8 (by rw [← ef_7]; exact z_zrS hI1_0 h_6 rfl ty_9) (by omega) hP hD hS (lv_sub hl [0, 1] rfl)
  exact LP1 68 0 m7f _ _ _ (z_w (c := 0) (d := 67) (z_lit (x := 0) (a := 0) (b := 0) rfl) rfl) hm7f.1 (z_zr0 m7f) (by decide) hP hD hS (lv_sub hl [0, 1] rfl)

set_option maxHeartbeats 8000000 in
set_option maxRecDepth 100000 in
theorem m_peek (l : Launch) (D : va_G) (ad : Nat → Nat) (mo : Nat) (m0 : Int32) (m2 : Int32) (m3 : Int32) (m4 : Int32) (m5 : Int32) (m11 : Int32) (m12 : Int32) (m13 : Int32) (m14 : Int32) (m15 : Int32) (m16 : Int32) (m17 : Int64) (m18 : Int32) (m19 : Int32) (m20 : Int32) (m23 : Int32) (m24 : Int32) (m25 : Int32) (m26 : Int32) (m28 : Int32) (m30 : Int32) (m31 : Int32) (m33 : Int32) (m36 : Int32) (m37 : Int32) (m39 : Int32) (m40 : Int32) (m41 : Int32) (m43 : Int32) (m45 : Int32) (m46 : Int32) (m47 : Int32) (m48 : Int32) (m49 : Int32) (m1 : Nat) (m1t : ClassId) (m1f : Nat → Int32) (m6 : Nat) (m6t : ClassId) (m6f : Nat → Int32) (m7 : Nat) (m7t : ClassId) (m7f : Nat → Int32) (m8 : Nat) (m8t : ClassId) (m8f : Nat → Int32) (m9 : Nat) (m9t : ClassId) (m9f : Nat → Int64) (m10 : Nat) (m10t : ClassId) (m10f : Nat → Int64) (m21 : Nat) (m21t : ClassId) (m21f : Nat → Int32) (m22 : Nat) (m22t : ClassId) (m22f : Nat → Int32) (m27 : Nat) (m27t : ClassId) (m27f : Nat → Int32) (m29 : Nat) (m29t : ClassId) (m29f : Nat → Int32) (m32 : Nat) (m32t : ClassId) (m32f : Nat → Int32) (m34 : Nat) (m34t : ClassId) (m34f : Nat → Int32) (m35 : Nat) (m35t : ClassId) (m35f : Nat → Int32) (m38 : Nat) (m38t : ClassId) (m38f : Nat → Int32) (m42 : Nat) (m42t : ClassId) (m42f : Nat → Int32) (m44 : Nat) (m44t : ClassId) (m44f : Nat → Int32) (m50 : Nat) (m50t : ClassId) (m50f : Nat → Int32) (m51 : Nat) (m51t : ClassId) (m51f : Nat → Int32) (m52 : Nat) (m52t : ClassId) (m52f : Nat → Int64) (m53 : Nat) (m53t : ClassId) (m53f : Nat → Int32) (hm2 : z_in 0 940 m2) (hm3 : z_in 0 940 m3) (hm4 : z_in 0 940 m4) (hm5 : z_in 0 940 m5) (hm11 : z_in 0 4 m11) (hm20 : z_in 0 1 m20) (hm23 : z_in 0 8 m23) (hm26 : z_in 0 1 m26) (hm28 : z_in (-1) 4 m28) (hm31 : z_in 0 1 m31) (hm33 : z_in (-1) 7 m33) (hm37 : z_in 0 1 m37) (hm39 : z_in 0 48 m39) (hm41 : z_in 0 40 m41) (hm43 : z_in 0 1 m43) (hm45 : z_in 0 45 m45) (hm46 : z_in 0 20 m46) (hm47 : z_in 0 45 m47) (hm49 : z_in 0 1 m49) (hm6f : z_sr m6f) (hm7f : z_hr m7f) (hm21f : z_ar rgU m21f) (hm22f : z_ar rgB m22f) (hm27f : z_al 0 4 m27f) (hm32f : z_al 0 4 m32f) (hm34f : z_al 0 1 m34f) (hm35f : z_al 0 1 m35f) (hm50f : z_al 0 1 m50f) (hm51f : z_ir m51f) (hm53f : z_al 0 1 m53f) : z_Mi l yX12_peek wsX12_peek { frames := 0, cells := 0, slots := 0, locals := 0 } D ad [.ref mo] [(mo, .inr (11, [.int m0, .ref m1, .int m2, .int m3, .int m4, .int m5, .ref m6, .ref m7, .ref m8, .ref m9, .ref m10, .int m11, .int m12, .int m13, .int m14, .int m15, .int m16, .long m17, .int m18, .int m19, .int m20, .ref m21, .ref m22, .int m23, .int m24, .int m25, .int m26, .ref m27, .int m28, .ref m29, .int m30, .int m31, .ref m32, .int m33, .ref m34, .ref m35, .int m36, .int m37, .ref m38, .int m39, .int m40, .int m41, .ref m42, .int m43, .ref m44, .int m45, .int m46, .int m47, .int m48, .int m49, .ref m50, .ref m51, .ref m52, .ref m53])), (m1, .inl (m1t, 940, .inl m1f)), (m6, .inl (m6t, 283, .inl m6f)), (m7, .inl (m7t, 67, .inl m7f)), (m8, .inl (m8t, 135, .inl m8f)), (m9, .inl (m9t, 36, .inr (.inl m9f))), (m10, .inl (m10t, 21, .inr (.inl m10f))), (m21, .inl (m21t, 280, .inl m21f)), (m22, .inl (m22t, 35, .inl m22f)), (m27, .inl (m27t, 4, .inl m27f)), (m29, .inl (m29t, 5, .inl m29f)), (m32, .inl (m32t, 7, .inl m32f)), (m34, .inl (m34t, 25, .inl m34f)), (m35, .inl (m35t, 25, .inl m35f)), (m38, .inl (m38t, 48, .inl m38f)), (m42, .inl (m42t, 4, .inl m42f)), (m44, .inl (m44t, 45, .inl m44f)), (m50, .inl (m50t, 45, .inl m50f)), (m51, .inl (m51t, 566, .inl m51f)), (m52, .inl (m52t, 36, .inr (.inl m52f))), (m53, .inl (m53t, 2, .inl m53f))] [(m1t, .byte), (m6t, .int), (m7t, .int), (m8t, .int), (m9t, .long), (m10t, .long), (m21t, .int), (m22t, .int), (m27t, .int), (m29t, .int), (m32t, .int), (m34t, .boolean), (m35t, .boolean), (m38t, .byte), (m42t, .int), (m44t, .int), (m50t, .boolean), (m51t, .int), (m52t, .long), (m53t, .boolean)] 0 0 (fun r9 u9 => z_in (-1) 255 r9 ∧ (0 ≤ r9.toInt → z_in 1 940 m3) ∧ (0 ≤ r9.toInt → z_in 0 939 m4) ∧ z_pe r9 m1f m3 m4 ∧ u9 = ([(mo, .inr (11, [.int m0, .ref m1, .int m2, .int m3, .int m4, .int m5, .ref m6, .ref m7, .ref m8, .ref m9, .ref m10, .int m11, .int m12, .int m13, .int m14, .int m15, .int m16, .long m17, .int m18, .int m19, .int m20, .ref m21, .ref m22, .int m23, .int m24, .int m25, .int m26, .ref m27, .int m28, .ref m29, .int m30, .int m31, .ref m32, .int m33, .ref m34, .ref m35, .int m36, .int m37, .ref m38, .int m39, .int m40, .int m41, .ref m42, .int m43, .ref m44, .int m45, .int m46, .int m47, .int m48, .int m49, .ref m50, .ref m51, .ref m52, .ref m53])), (m1, .inl (m1t, 940, .inl m1f)), (m6, .inl (m6t, 283, .inl m6f)), (m7, .inl (m7t, 67, .inl m7f)), (m8, .inl (m8t, 135, .inl m8f)), (m9, .inl (m9t, 36, .inr (.inl m9f))), (m10, .inl (m10t, 21, .inr (.inl m10f))), (m21, .inl (m21t, 280, .inl m21f)), (m22, .inl (m22t, 35, .inl m22f)), (m27, .inl (m27t, 4, .inl m27f)), (m29, .inl (m29t, 5, .inl m29f)), (m32, .inl (m32t, 7, .inl m32f)), (m34, .inl (m34t, 25, .inl m34f)), (m35, .inl (m35t, 25, .inl m35f)), (m38, .inl (m38t, 48, .inl m38f)), (m42, .inl (m42t, 4, .inl m42f)), (m44, .inl (m44t, 45, .inl m44f)), (m50, .inl (m50t, 45, .inl m50f)), (m51, .inl (m51t, 566, .inl m51f)), (m52, .inl (m52t, 36, .inr (.inl m52f))), (m53, .inl (m53t, 2, .inl m53f))], [])) := by
  refine z_ofI (cc := cX12_peek) (maxL := 1) (rt := .int) (by decide) rfl (Nat.le_of_ble_eq_true rfl) ?_
  intro p e s m below meth c Q A ls hx hb hml hown hts hin hK hP hD hA hE hO hS hl hret
  have hown : s.vm.findClass RX12 = some m.cls := hown
  have hiX12 : ∀ w ∈ wsX120, w ∈ wsX12_peek := fun _ h9 => List.mem_cons_of_mem _ (List.mem_append_right _ h9)
  have hl : lv_has ls 1 [(0, .ref mo)] := hl
  refine lv_aload_n hx hb dX12_peek_0 rfl (lv_at hl 0 rfl) ?_
  refine va_get (D := D) (ci := 11) (v := .int m4) (C := RX12) (T := TX12) (N := 54) hx hb hts hiX12 hown hK hP 0 rfl rfl 4 (by decide) (hts _ (List.mem_of_getElem? (i := 1) rfl)) (fun _ h9 => h9) rfl dX12_peek_1 ?_
  refine lv_aload_n hx hb dX12_peek_4 rfl (lv_at hl 0 rfl) ?_
  refine va_get (D := D) (ci := 11) (v := .int m3) (C := RX12) (T := TX12) (N := 54) hx hb hts hiX12 hown hK hP 0 rfl rfl 3 (by decide) (hts _ (List.mem_of_getElem? (i := 2) rfl)) (fun _ h9 => h9) rfl dX12_peek_5 ?_
  refine lv_icmp_ge (tgt := 27) hx hb dX12_peek_8 (by decide) (fun c_1 => ?_) (fun c_1 => ?_)
  · skip
    refine lv_iconst (v := (-1)) hx hb dX12_peek_27 (by decide) ?_
    exact hret (-1) ([(mo, .inr (11, [.int m0, .ref m1, .int m2, .int m3, .int m4, .int m5, .ref m6, .ref m7, .ref m8, .ref m9, .ref m10, .int m11, .int m12, .int m13, .int m14, .int m15, .int m16, .long m17, .int m18, .int m19, .int m20, .ref m21, .ref m22, .int m23, .int m24, .int m25, .int m26, .ref m27, .int m28, .ref m29, .int m30, .int m31, .ref m32, .int m33, .ref m34, .ref m35, .int m36, .int m37, .ref m38, .int m39, .int m40, .int m41, .ref m42, .int m43, .ref m44, .int m45, .int m46, .int m47, .int m48, .int m49, .ref m50, .ref m51, .ref m52, .ref m53])), (m1, .inl (m1t, 940, .inl m1f)), (m6, .inl (m6t, 283, .inl m6f)), (m7, .inl (m7t, 67, .inl m7f)), (m8, .inl (m8t, 135, .inl m8f)), (m9, .inl (m9t, 36, .inr (.inl m9f))), (m10, .inl (m10t, 21, .inr (.inl m10f))), (m21, .inl (m21t, 280, .inl m21f)), (m22, .inl (m22t, 35, .inl m22f)), (m27, .inl (m27t, 4, .inl m27f)), (m29, .inl (m29t, 5, .inl m29f)), (m32, .inl (m32t, 7, .inl m32f)), (m34, .inl (m34t, 25, .inl m34f)), (m35, .inl (m35t, 25, .inl m35f)), (m38, .inl (m38t, 48, .inl m38f)), (m42, .inl (m42t, 4, .inl m42f)), (m44, .inl (m44t, 45, .inl m44f)), (m50, .inl (m50t, 45, .inl m50f)), (m51, .inl (m51t, 566, .inl m51f)), (m52, .inl (m52t, 36, .inr (.inl m52f))), (m53, .inl (m53t, 2, .inl m53f))], []) _ _ _ _ dX12_peek_28 rfl ⟨(z_w (c := (-1)) (d := 255) (z_lit (x := (-1)) (a := (-1)) (b := (-1)) rfl) rfl), (fun h9 => absurd (Int.le_trans h9 (z_lit (x := (-1)) (a := (-1)) (b := (-1)) rfl).2) (by decide)), (fun h9 => absurd (Int.le_trans h9 (z_lit (x := (-1)) (a := (-1)) (b := (-1)) rfl).2) (by decide)), (z_peN c_1), rfl⟩ hP (hK.sub [] rfl) hD hS
  · skip
    have h_2 : z_in 0 939 m4 := z_ltL (Int32.not_le.mp c_1) hm4 hm3 rfl
    have h_3 : z_in 1 940 m3 := z_ltR (Int32.not_le.mp c_1) hm4 hm3 rfl
    refine lv_aload_n hx hb dX12_peek_11 rfl (lv_at hl 0 rfl) ?_
    refine va_get (D := D) (ci := 11) (v := .ref m1) (C := RX12) (T := TX12) (N := 54) hx hb hts hiX12 hown hK hP 0 rfl rfl 1 (by decide) (hts _ (List.mem_of_getElem? (i := 3) rfl)) (fun _ h9 => h9) rfl dX12_peek_12 ?_
    refine lv_aload_n hx hb dX12_peek_15 rfl (lv_at hl 0 rfl) ?_
    refine va_get (D := D) (ci := 11) (v := .int m4) (C := RX12) (T := TX12) (N := 54) hx hb hts hiX12 hown hK hP 0 rfl rfl 4 (by decide) (hts _ (List.mem_of_getElem? (i := 1) rfl)) (fun _ h9 => h9) rfl dX12_peek_16 ?_
    refine va_bald hx hb hK hP 1 0 rfl rfl (z_vp h_2 rfl) dX12_peek_19 ?_
    refine lv_topi (fun y_4 ey_4 => ?_)
    refine lv_sipush (v := 255) hx hb dX12_peek_20 (by decide) ?_
    refine lv_iand hx hb dX12_peek_23 ?_
    refine lv_topi (fun y_5 ey_5 => ?_)
    have h_6 : z_in 0 255 y_5 := by rw [ey_5]; exact z_andR (z_lit (x := 255) (a := 255) (b := 255) rfl) rfl
    refine lv_goto (tgt := 28) hx hb dX12_peek_24 (by decide) ?_
    exact hret y_5 ([(mo, .inr (11, [.int m0, .ref m1, .int m2, .int m3, .int m4, .int m5, .ref m6, .ref m7, .ref m8, .ref m9, .ref m10, .int m11, .int m12, .int m13, .int m14, .int m15, .int m16, .long m17, .int m18, .int m19, .int m20, .ref m21, .ref m22, .int m23, .int m24, .int m25, .int m26, .ref m27, .int m28, .ref m29, .int m30, .int m31, .ref m32, .int m33, .ref m34, .ref m35, .int m36, .int m37, .ref m38, .int m39, .int m40, .int m41, .ref m42, .int m43, .ref m44, .int m45, .int m46, .int m47, .int m48, .int m49, .ref m50, .ref m51, .ref m52, .ref m53])), (m1, .inl (m1t, 940, .inl m1f)), (m6, .inl (m6t, 283, .inl m6f)), (m7, .inl (m7t, 67, .inl m7f)), (m8, .inl (m8t, 135, .inl m8f)), (m9, .inl (m9t, 36, .inr (.inl m9f))), (m10, .inl (m10t, 21, .inr (.inl m10f))), (m21, .inl (m21t, 280, .inl m21f)), (m22, .inl (m22t, 35, .inl m22f)), (m27, .inl (m27t, 4, .inl m27f)), (m29, .inl (m29t, 5, .inl m29f)), (m32, .inl (m32t, 7, .inl m32f)), (m34, .inl (m34t, 25, .inl m34f)), (m35, .inl (m35t, 25, .inl m35f)), (m38, .inl (m38t, 48, .inl m38f)), (m42, .inl (m42t, 4, .inl m42f)), (m44, .inl (m44t, 45, .inl m44f)), (m50, .inl (m50t, 45, .inl m50f)), (m51, .inl (m51t, 566, .inl m51f)), (m52, .inl (m52t, 36, .inr (.inl m52f))), (m53, .inl (m53t, 2, .inl m53f))], []) _ _ _ _ dX12_peek_28 rfl ⟨(z_w (c := (-1)) (d := 255) h_6 rfl), (fun _ => h_3), (fun _ => h_2), (z_peI (Int32.not_le.mp c_1) ey_5 ey_4), rfl⟩ hP (hK.sub [] rfl) hD hS
