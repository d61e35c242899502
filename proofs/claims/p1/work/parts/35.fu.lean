set_option maxHeartbeats 8000000 in
set_option maxRecDepth 100000 in
theorem k_X11_init (l : Launch) (D : va_G) (ad : Nat → Nat) (h0 : Nat)  : z_Mv l yX11_init wsX11_init { frames := 4, cells := 189, slots := 3000, locals := 81 } D ad [.ref h0] [(h0, .inr (10, [.null, .null, .null, .null, .null, .null, .null, .null, .null, .int 0, .null, .null, .null, .null, .int 0, .int 0]))] [] 189 3000 (fun u9 => ∃ (a9 : Nat → Nat) (v9 : Nat → ClassId), h0 = a9 0 ∧ u9 = (gF ad a9 v9, gFt v9)) := by
  sorry
