set_option maxHeartbeats 8000000 in
set_option maxRecDepth 100000 in
theorem z_wKn (b : Nat) (s : State) (hts0 : ∀ w ∈ lw_tbl, w.before #[Value.ref b] s = true) : ∃ D : va_G, ∀ (k : Nat) (q : vw_C), vwCl[k]? = some q → u_Kn s q.1 q.2.1 q.2.2 (D.1 k) (D.2 k) := by
  obtain ⟨c0, i0, hKn0⟩ := u_known (C := RX0) (T := TX0) (N := 8) (n := 8) hts0 linX0 (hts0 (.instantiable RX0 8) (List.mem_of_getElem? (i := 479) (by decide +kernel)))
  obtain ⟨c1, i1, hKn1⟩ := u_known (C := RX1) (T := TX1) (N := 1) (n := 1) hts0 linX1 (hts0 (.instantiable RX1 1) (List.mem_of_getElem? (i := 469) (by decide +kernel)))
  obtain ⟨c2, i2, hKn2⟩ := u_known (C := RX2) (T := TX2) (N := 2) (n := 2) hts0 linX2 (hts0 (.instantiable RX2 2) (List.mem_of_getElem? (i := 232) (by decide +kernel)))
  obtain ⟨c3, i3, hKn3⟩ := u_known (C := RX3) (T := TX3) (N := 11) (n := 11) hts0 linX3 (hts0 (.instantiable RX3 11) (List.mem_of_getElem? (i := 423) (by decide +kernel)))
  obtain ⟨c4, i4, hKn4⟩ := u_known (C := RX4) (T := TX4) (N := 8) (n := 8) hts0 linX4 (hts0 (.instantiable RX4 8) (List.mem_of_getElem? (i := 320) (by decide +kernel)))
  obtain ⟨c5, i5, hKn5⟩ := u_known (C := RX5) (T := TX5) (N := 10) (n := 10) hts0 linX5 (hts0 (.instantiable RX5 10) (List.mem_of_getElem? (i := 363) (by decide +kernel)))
  obtain ⟨c6, i6, hKn6⟩ := u_known (C := RX6) (T := TX6) (N := 2) (n := 2) hts0 linX6 (hts0 (.instantiable RX6 2) (List.mem_of_getElem? (i := 163) (by decide +kernel)))
  obtain ⟨c7, i7, hKn7⟩ := u_known (C := RX7) (T := TX7) (N := 10) (n := 10) hts0 linX7 (hts0 (.instantiable RX7 10) (List.mem_of_getElem? (i := 179) (by decide +kernel)))
  obtain ⟨c8, i8, hKn8⟩ := u_known (C := RX8) (T := TX8) (N := 12) (n := 12) hts0 linX8 (hts0 (.instantiable RX8 12) (List.mem_of_getElem? (i := 226) (by decide +kernel)))
  obtain ⟨c9, i9, hKn9⟩ := u_known (C := RX10) (T := TX10) (N := 4) (n := 4) hts0 linX10 (hts0 (.instantiable RX10 4) (List.mem_of_getElem? (i := 220) (by decide +kernel)))
  obtain ⟨c10, i10, hKn10⟩ := u_known (C := RX11) (T := TX11) (N := 16) (n := 16) hts0 linX11 (hts0 (.instantiable RX11 16) (List.mem_of_getElem? (i := 155) (by decide +kernel)))
  obtain ⟨c11, i11, hKn11⟩ := u_known (C := RX12) (T := TX12) (N := 54) (n := 54) hts0 linX12 (hts0 (.instantiable RX12 54) (List.mem_of_getElem? (i := 1556) (by decide +kernel)))
  refine ⟨(fun k => [c0, c1, c2, c3, c4, c5, c6, c7, c8, c9, c10, c11].getD k 0, fun k => [i0, i1, i2, i3, i4, i5, i6, i7, i8, i9, i10, i11].getD k (fun _ => 0)), ?_⟩
  intro k q hq
  match k, hq with
  | 0, hq => cases hq; exact hKn0
  | 1, hq => cases hq; exact hKn1
  | 2, hq => cases hq; exact hKn2
  | 3, hq => cases hq; exact hKn3
  | 4, hq => cases hq; exact hKn4
  | 5, hq => cases hq; exact hKn5
  | 6, hq => cases hq; exact hKn6
  | 7, hq => cases hq; exact hKn7
  | 8, hq => cases hq; exact hKn8
  | 9, hq => cases hq; exact hKn9
  | 10, hq => cases hq; exact hKn10
  | 11, hq => cases hq; exact hKn11
  | k + 12, hq => simp [vwCl] at hq
