theorem z_wE (b : Nat) (s : State) (hts0 : ∀ w ∈ lw_tbl, w.before #[Value.ref b] s = true) (hgv : (Jvm.Cond.and given_1 narrow_1).before #[Value.ref b] s = true) (A : Nat → Prop) (hA : ∀ a : Nat, a < s.heap.size → ¬ A a) : ∃ ad : Nat → Nat, z_W ad A s s.heap := by
  have hs := flat_of_before _ hgv
  refine va_Enof (args := #[Value.ref b]) (fun i hi => hts0 _ (z_wls i hi)) (hts0 _ (List.mem_of_getElem? (i := 133) (by decide +kernel))) (fun i hi => hs _ (z_wex i hi)) (fun q hq => nomatch hq) (fun i j hi hj hij => ?_) hA
  rcases Nat.lt_or_gt_of_ne hij with h | h
  · exact z_hall (zb2 hgv) i j h hj
  · exact (z_hall (zb2 hgv) j i h hi).symm
set_option maxRecDepth 100000 in
theorem z_inz : ∀ w ∈ (z_atS RX11 149 "java/util/NoSuchElementException" 13 z_rx ["java/lang/RuntimeException", "java/lang/Exception"]).filter goodWord, w ∈ lw_tbl := by decide +kernel
