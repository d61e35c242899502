set_option maxRecDepth 100000 in
theorem z_inb : ∀ w ∈ z_bad, w ∈ lw_tbl := by decide +kernel
set_option maxRecDepth 100000 in
theorem z_wR (b : Nat) (s : State) (hts0 : ∀ w ∈ lw_tbl, w.before #[Value.ref b] s = true) (hgv : (Jvm.Cond.and given_1 narrow_1).before #[Value.ref b] s = true) (k : Nat) (tx : String) (h1 : Cond.stringRef RX11 k tx ∈ lw_tbl) (h2 : Cond.exactly (.string RX11 k) "java/lang/String" ∈ flatC (Jvm.Cond.and given_1 narrow_1)) : ∃ sa : Nat, vk_R RX11 k tx sa s := by
  have hs := flat_of_before _ hgv
  obtain ⟨sa, -, -, -, ha, -⟩ := Cond.exactly_spec (hs _ h2)
  exact ⟨sa, vk_R.of (hts0 _ h1) ha⟩
set_option maxRecDepth 100000 in
theorem z_wY (b : Nat) (s : State) (hts0 : ∀ w ∈ lw_tbl, w.before #[Value.ref b] s = true) (hgv : (Jvm.Cond.and given_1 narrow_1).before #[Value.ref b] s = true) (A : Nat → Prop) (hA : ∀ a : Nat, a < s.heap.size → ¬ A a) : z_Y A s := by
  have hs := flat_of_before _ hgv
  have hU : vx_Zq Bundle.tN "UNASSIGNED_STACK" Bundle.steD A s s.heap := vx_Zqof (hts0 _ (by decide +kernel)) (hts0 _ (by decide +kernel)) (hs _ (by decide +kernel)) hA
  have hN : vx_Zq Bundle.tN "SUPPRESSED_SENTINEL" Bundle.listD A s s.heap := vx_Zqof (hts0 _ (by decide +kernel)) (hts0 _ (by decide +kernel)) (hs _ (by decide +kernel)) hA
  obtain ⟨s1, h1⟩ := z_wR b s hts0 hgv 147 "no such person" (by decide +kernel) (by decide +kernel)
  obtain ⟨s2, h2⟩ := z_wR b s hts0 hgv 178 "no such umbrella" (by decide +kernel) (by decide +kernel)
  obtain ⟨s3, h3⟩ := z_wR b s hts0 hgv 201 "no such sorrow" (by decide +kernel) (by decide +kernel)
  have hB : ∀ w ∈ z_bad, w.before #[] s = true := fun w hw => va_tabs (z_bad_ot w hw) rfl (hts0 w (z_inb w hw))
  exact ⟨⟨s1, h1, hU, hN, hB⟩, ⟨s2, h2, hU, hN, hB⟩, ⟨s3, h3, hU, hN, hB⟩⟩
