theorem z_cpu {f g : Nat → Int32} {k : Nat} {x : Int32} (h : ∀ j : Nat, f j = if j < k then g j else 0) (hx : x = g k) : ∀ j : Nat, upd f k x j = if j < k + 1 then g j else 0 := by
  intro j
  simp only [upd]
  by_cases ej : j = k
  · rw [if_pos ej, if_pos (by omega), hx, ej]
  · rw [if_neg ej, h j]
    by_cases hj : j < k
    · rw [if_pos hj, if_pos (by omega)]
    · rw [if_neg hj, if_neg (by omega)]
theorem z_cpEnd {f g : Nat → Int32} {n : Nat} (h : ∀ j : Nat, f j = if j < n then g j else 0) (hg : ∀ j : Nat, n ≤ j → g j = 0) : f = g := by
  funext j
  rw [h j]
  by_cases hj : j < n
  · rw [if_pos hj]
  · rw [if_neg hj, hg j (by omega)]
theorem z_hF (j : Nat) (h : 67 ≤ j) : upd (fun _ => 0) 4 2 j = 0 := by
  simp only [upd]
  rw [if_neg (by omega)]

