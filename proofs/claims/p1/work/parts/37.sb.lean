set_option maxRecDepth 100000 in
theorem z_wls : ∀ i, i < 22 → Cond.laysStatic z_E (z_nm.getD i "") z_d ∈ lw_tbl := by decide +kernel
set_option maxRecDepth 100000 in
theorem z_wO (b : Nat) (s : State) (hts0 : ∀ w ∈ lw_tbl, w.before #[Value.ref b] s = true) : z_O s := by
  refine ⟨⟨va_AO.of (hts0 _ (by decide +kernel)), va_AO.of (hts0 _ (by decide +kernel)), va_AO.of (hts0 _ (by decide +kernel))⟩, fun q hq => va_Nw.of rfl (hts0 _ ?_), fun q hq => va_Nw.of rfl (hts0 _ ?_)⟩
  · revert q; decide +kernel
  · revert q; decide +kernel
