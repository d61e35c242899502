/-- an int between two bounds -/
def z_in (a b : Int) (x : Int32) : Prop := a ≤ x.toInt ∧ x.toInt ≤ b
/-- a row whose ints all lie between two bounds -/
def z_al (a b : Int) (f : Nat → Int32) : Prop := ∀ i, z_in a b (f i)
theorem z_lit {x : Int32} {a b : Int} (h : decide (a ≤ x.toInt ∧ x.toInt ≤ b) = true) : z_in a b x := (of_decide_eq_true h : a ≤ x.toInt ∧ x.toInt ≤ b)
theorem z_any (x : Int32) : z_in (-2147483648) 2147483647 x := by
  have h1 := x.le_toInt
  have h2 := x.toInt_lt
  exact ⟨by omega, by omega⟩
theorem z_w {a b c d : Int} {x : Int32} (h : z_in a b x) (k : decide (c ≤ a ∧ b ≤ d) = true) : z_in c d x := by
  have k := of_decide_eq_true k
  exact ⟨Int.le_trans k.1 h.1, Int.le_trans h.2 k.2⟩
theorem z_alw {a b c d : Int} {f : Nat → Int32} (h : z_al a b f) (k : decide (c ≤ a ∧ b ≤ d) = true) : z_al c d f := fun i => z_w (h i) k
theorem z_addT {a b c d : Int} {x y : Int32} (hx : z_in a b x) (hy : z_in c d y) (h : decide (-2147483648 ≤ a + c ∧ b + d ≤ 2147483647) = true) : (x + y).toInt = x.toInt + y.toInt := by
  obtain ⟨h3, h4⟩ := of_decide_eq_true h
  obtain ⟨x1, x2⟩ := hx
  obtain ⟨y1, y2⟩ := hy
  rw [Int32.toInt_add]
  exact Int.bmod_eq_of_le_mul_two (by omega) (by omega)
theorem z_subT {a b c d : Int} {x y : Int32} (hx : z_in a b x) (hy : z_in c d y) (h : decide (-2147483648 ≤ a - d ∧ b - c ≤ 2147483647) = true) : (x - y).toInt = x.toInt - y.toInt := by
  obtain ⟨h3, h4⟩ := of_decide_eq_true h
  obtain ⟨x1, x2⟩ := hx
  obtain ⟨y1, y2⟩ := hy
  rw [Int32.toInt_sub]
  exact Int.bmod_eq_of_le_mul_two (by omega) (by omega)
theorem z_add {a b c d e f : Int} {x y : Int32} (hx : z_in a b x) (hy : z_in c d y) (h : decide (-2147483648 ≤ a + c ∧ b + d ≤ 2147483647) = true) (k : decide (e = a + c ∧ f = b + d) = true) : z_in e f (x + y) := by
  have k := of_decide_eq_true k
  have t := z_addT hx hy h
  obtain ⟨x1, x2⟩ := hx
  obtain ⟨y1, y2⟩ := hy
  exact ⟨by omega, by omega⟩
theorem z_sub {a b c d e f : Int} {x y : Int32} (hx : z_in a b x) (hy : z_in c d y) (h : decide (-2147483648 ≤ a - d ∧ b - c ≤ 2147483647) = true) (k : decide (e = a - d ∧ f = b - c) = true) : z_in e f (x - y) := by
  have k := of_decide_eq_true k
  have t := z_subT hx hy h
  obtain ⟨x1, x2⟩ := hx
  obtain ⟨y1, y2⟩ := hy
  exact ⟨by omega, by omega⟩
theorem z_mul {a b c d e f : Int} {x y : Int32} (hx : z_in a b x) (hy : z_in c d y) (h : decide (0 ≤ a ∧ 0 ≤ c ∧ b * d ≤ 2147483647) = true) (k : decide (e = a * c ∧ f = b * d) = true) : z_in e f (x * y) := by
  have k := of_decide_eq_true k
  obtain ⟨h1, h2, h3⟩ := of_decide_eq_true h
  obtain ⟨x1, x2⟩ := hx
  obtain ⟨y1, y2⟩ := hy
  have m1 : a * c ≤ x.toInt * y.toInt := Int.mul_le_mul x1 y1 h2 (by omega)
  have m2 : x.toInt * y.toInt ≤ b * d := Int.mul_le_mul x2 y2 (by omega) (by omega)
  have m0 : 0 ≤ a * c := Int.mul_nonneg h1 h2
  have t : (x * y).toInt = x.toInt * y.toInt := by
    rw [Int32.toInt_mul]
    generalize x.toInt * y.toInt = z at m1 m2
    exact Int.bmod_eq_of_le_mul_two (by omega) (by omega)
  exact ⟨by omega, by omega⟩
theorem z_ltL {a b c d e : Int} {x y : Int32} (h : x < y) (hx : z_in a b x) (hy : z_in c d y) (k : decide (d - 1 ≤ e) = true) : z_in a e x := by
  have k := of_decide_eq_true k
  have h := Int32.lt_iff_toInt_lt.mp h
  exact ⟨hx.1, by have := hy.2; omega⟩
theorem z_ltR {a b c d e : Int} {x y : Int32} (h : x < y) (hx : z_in a b x) (hy : z_in c d y) (k : decide (e ≤ a + 1) = true) : z_in e d y := by
  have k := of_decide_eq_true k
  have h := Int32.lt_iff_toInt_lt.mp h
  exact ⟨by have := hx.1; omega, hy.2⟩
theorem z_leL {a b c d e : Int} {x y : Int32} (h : x ≤ y) (hx : z_in a b x) (hy : z_in c d y) (k : decide (d ≤ e) = true) : z_in a e x := by
  have k := of_decide_eq_true k
  have h := Int32.le_iff_toInt_le.mp h
  exact ⟨hx.1, by have := hy.2; omega⟩
theorem z_leR {a b c d e : Int} {x y : Int32} (h : x ≤ y) (hx : z_in a b x) (hy : z_in c d y) (k : decide (e ≤ a) = true) : z_in e d y := by
  have k := of_decide_eq_true k
  have h := Int32.le_iff_toInt_le.mp h
  exact ⟨by have := hx.1; omega, hy.2⟩
theorem z_neLo {a b c d e : Int} {x y : Int32} (h : ¬ x = y) (hx : z_in a b x) (hy : z_in c d y) (k : decide (c = a ∧ d = a ∧ e = a + 1) = true) : z_in e b x := by
  have k := of_decide_eq_true k
  have h : ¬ x.toInt = y.toInt := fun q => h (Int32.toInt_inj.mp q)
  obtain ⟨x1, x2⟩ := hx
  obtain ⟨y1, y2⟩ := hy
  exact ⟨by omega, x2⟩
theorem z_neHi {a b c d e : Int} {x y : Int32} (h : ¬ x = y) (hx : z_in a b x) (hy : z_in c d y) (k : decide (c = b ∧ d = b ∧ e = b - 1) = true) : z_in a e x := by
  have k := of_decide_eq_true k
  have h : ¬ x.toInt = y.toInt := fun q => h (Int32.toInt_inj.mp q)
  obtain ⟨x1, x2⟩ := hx
  obtain ⟨y1, y2⟩ := hy
  exact ⟨x1, by omega⟩
theorem z_no {a b : Int} {x : Int32} (hx : z_in a b x) (k : decide (b < a) = true) : False := by
  have k := of_decide_eq_true k
  obtain ⟨x1, x2⟩ := hx
  omega
theorem z_neNo {a c : Int} {x y : Int32} (h : ¬ x = y) (hx : z_in a a x) (hy : z_in c c y) (k : decide (a = c) = true) : False := by
  have k := of_decide_eq_true k
  obtain ⟨x1, x2⟩ := hx
  obtain ⟨y1, y2⟩ := hy
  exact h (Int32.toInt_inj.mp (by omega))
theorem z_vp {a b : Int} {x : Int32} {n : Nat} (hx : z_in a b x) (k : decide (0 ≤ a ∧ b < (n : Int)) = true) : vp_in x n := by
  have k := of_decide_eq_true k
  obtain ⟨x1, x2⟩ := hx
  exact vp_in_iff.mpr ⟨by omega, by omega⟩
theorem z_nz {a b : Int} {x : Int32} (hx : z_in a b x) (k : decide (0 < a ∨ b < 0) = true) : ¬ x = 0 := by
  have k := of_decide_eq_true k
  obtain ⟨x1, x2⟩ := hx
  intro e
  rw [e] at x1 x2
  have : (0 : Int32).toInt = 0 := rfl
  omega
theorem z_alu {a b : Int} {f : Nat → Int32} {k : Nat} {x : Int32} (hf : z_al a b f) (hx : z_in a b x) : z_al a b (upd f k x) := by
  intro i
  simp only [upd]
  by_cases h : i = k
  · rw [if_pos h]; exact hx
  · rw [if_neg h]; exact hf i
theorem z_alc {a b : Int} {f g : Nat → Int32} {sp dp n : Nat} (hf : z_al a b f) (hg : z_al a b g) : z_al a b (va_cpy f g sp dp n) := by
  intro i
  simp only [va_cpy]
  by_cases h : dp ≤ i ∧ i < dp + n
  · rw [if_pos h]; exact hf _
  · rw [if_neg h]; exact hg i
theorem z_min {a b c d e f : Int} {x y : Int32} (hx : z_in a b x) (hy : z_in c d y) (k : decide (e ≤ a ∧ e ≤ c ∧ (b ≤ f ∨ d ≤ f)) = true) : z_in e f (if y < x then y else x) := by
  obtain ⟨k1, k2, k3⟩ := of_decide_eq_true k
  obtain ⟨x1, x2⟩ := hx
  obtain ⟨y1, y2⟩ := hy
  by_cases h : y < x
  · rw [if_pos h]
    have h := Int32.lt_iff_toInt_lt.mp h
    exact ⟨by omega, by omega⟩
  · rw [if_neg h]
    have h := Int32.le_iff_toInt_le.mp (Int32.not_lt.mp h)
    exact ⟨by omega, by omega⟩
theorem z_max {a b c d e f : Int} {x y : Int32} (hx : z_in a b x) (hy : z_in c d y) (k : decide (b ≤ f ∧ d ≤ f ∧ (e ≤ a ∨ e ≤ c)) = true) : z_in e f (if x < y then y else x) := by
  obtain ⟨k1, k2, k3⟩ := of_decide_eq_true k
  obtain ⟨x1, x2⟩ := hx
  obtain ⟨y1, y2⟩ := hy
  by_cases h : x < y
  · rw [if_pos h]
    have h := Int32.lt_iff_toInt_lt.mp h
    exact ⟨by omega, by omega⟩
  · rw [if_neg h]
    have h := Int32.le_iff_toInt_le.mp (Int32.not_lt.mp h)
    exact ⟨by omega, by omega⟩
theorem z_cmp (x y : Int64) : z_in (-1) 1 (lg_cmp x y) := by
  by_cases h1 : y < x
  · have e1 : lg_cmp x y = 1 := by simp [lg_cmp, h1]
    rw [e1]; exact z_lit rfl
  · by_cases h2 : x = y
    · have e1 : lg_cmp x y = 0 := by simp [lg_cmp, h2]
      rw [e1]; exact z_lit rfl
    · have e1 : lg_cmp x y = -1 := by simp [lg_cmp, h1, h2]
      rw [e1]; exact z_lit rfl
theorem z_nn {a b : Int} {x : Int32} (hx : z_in a b x) (k : decide (0 ≤ a) = true) : x.toInt = (x.toBitVec.toNat : Int) ∧ x.toBitVec.toNat < 2 ^ 31 := by
  have k := of_decide_eq_true k
  obtain ⟨x1, x2⟩ := hx
  have h : x.toBitVec.toInt = x.toInt := rfl
  rw [← h] at x1 ⊢
  rw [BitVec.toInt_eq_toNat_cond] at x1 ⊢
  have h2 := x.toBitVec.isLt
  by_cases q : 2 * x.toBitVec.toNat < 2 ^ 32
  · rw [if_pos q]; exact ⟨rfl, by omega⟩
  · rw [if_neg q] at x1; omega
theorem z_ofn {x : Int32} (h : x.toBitVec.toNat < 2 ^ 31) : x.toInt = (x.toBitVec.toNat : Int) := by
  have e : x.toBitVec.toInt = x.toInt := rfl
  rw [← e, BitVec.toInt_eq_toNat_cond, if_pos (by omega)]
theorem z_andR {c d : Int} {x y : Int32} (hy : z_in c d y) (k : decide (0 ≤ c) = true) : z_in 0 d (x &&& y) := by
  obtain ⟨n1, n2⟩ := z_nn hy k
  have h : (x &&& y).toBitVec.toNat = x.toBitVec.toNat &&& y.toBitVec.toNat := by rw [Int32.toBitVec_and, BitVec.toNat_and]
  have h2 : x.toBitVec.toNat &&& y.toBitVec.toNat ≤ y.toBitVec.toNat := Nat.and_le_right
  have t := z_ofn (x := x &&& y) (by omega)
  have y2 := hy.2
  exact ⟨by omega, by omega⟩
theorem z_andL {a b : Int} {x y : Int32} (hx : z_in a b x) (k : decide (0 ≤ a) = true) : z_in 0 b (x &&& y) := by
  obtain ⟨n1, n2⟩ := z_nn hx k
  have h : (x &&& y).toBitVec.toNat = x.toBitVec.toNat &&& y.toBitVec.toNat := by rw [Int32.toBitVec_and, BitVec.toNat_and]
  have h2 : x.toBitVec.toNat &&& y.toBitVec.toNat ≤ x.toBitVec.toNat := Nat.and_le_left
  have t := z_ofn (x := x &&& y) (by omega)
  have x2 := hx.2
  exact ⟨by omega, by omega⟩
theorem z_or {a b c d f : Int} {k : Nat} {x y : Int32} (hx : z_in a b x) (hy : z_in c d y) (h : decide (0 ≤ a ∧ 0 ≤ c ∧ b < 2 ^ k ∧ d < 2 ^ k ∧ k ≤ 31 ∧ f = 2 ^ k - 1) = true) : z_in 0 f (x ||| y) := by
  obtain ⟨h1, h2, h3, h4, h5, h6⟩ := of_decide_eq_true h
  obtain ⟨n1, n2⟩ := z_nn hx (decide_eq_true h1)
  obtain ⟨m1, m2⟩ := z_nn hy (decide_eq_true h2)
  have x2 := hx.2
  have y2 := hy.2
  have e1 : x.toBitVec.toNat < 2 ^ k := by
    have : (x.toBitVec.toNat : Int) < ((2 ^ k : Nat) : Int) := by push_cast; omega
    omega
  have e2 : y.toBitVec.toNat < 2 ^ k := by
    have : (y.toBitVec.toNat : Int) < ((2 ^ k : Nat) : Int) := by push_cast; omega
    omega
  have e3 := Nat.or_lt_two_pow e1 e2
  have e4 : (2 : Nat) ^ k ≤ 2 ^ 31 := Nat.pow_le_pow_right (by decide) h5
  have e : (x ||| y).toBitVec.toNat = x.toBitVec.toNat ||| y.toBitVec.toNat := by rw [Int32.toBitVec_or, BitVec.toNat_or]
  have t := z_ofn (x := x ||| y) (by omega)
  have e5 : ((x.toBitVec.toNat ||| y.toBitVec.toNat : Nat) : Int) < ((2 ^ k : Nat) : Int) := by omega
  have e6 : ((2 ^ k : Nat) : Int) = (2 : Int) ^ k := by push_cast; rfl
  exact ⟨by omega, by omega⟩
theorem z_shlN : ∀ j : Fin 31, ((1 : Int32) <<< (nI j.val &&& 31)).toInt = ((2 ^ j.val : Nat) : Int) := by decide
theorem z_shl1 {a b e f : Int} {y : Int32} (hy : z_in a b y) (k : decide (0 ≤ a ∧ b ≤ 30 ∧ e = 2 ^ a.toNat ∧ f = 2 ^ b.toNat) = true) : z_in e f ((1 : Int32) <<< (y &&& 31)) := by
  obtain ⟨k1, k2, k3, k4⟩ := of_decide_eq_true k
  obtain ⟨y1, y2⟩ := hy
  obtain ⟨j, hj, rfl⟩ := nI_of2 (x := y) (M := 30) (n := 30) rfl (fun h => by have := Int32.lt_iff_toInt_lt.mp h; have e : (0 : Int32).toInt = 0 := rfl; omega) (Int32.le_iff_toInt_le.mpr (by have e : (30 : Int32).toInt = 30 := rfl; omega))
  have t := z_shlN ⟨j, by omega⟩
  have q := nI_toInt (n := j) (by omega)
  have c1 : a.toNat ≤ j := by omega
  have c2 : j ≤ b.toNat := by omega
  have d1 : (2 : Nat) ^ a.toNat ≤ 2 ^ j := Nat.pow_le_pow_right (by decide) c1
  have d2 : (2 : Nat) ^ j ≤ 2 ^ b.toNat := Nat.pow_le_pow_right (by decide) c2
  have e1 : ((2 ^ a.toNat : Nat) : Int) = (2 : Int) ^ a.toNat := by push_cast; rfl
  have e2 : ((2 ^ b.toNat : Nat) : Int) = (2 : Int) ^ b.toNat := by push_cast; rfl
  refine ⟨?_, ?_⟩
  · rw [k3, ← e1, t]; exact Int.ofNat_le.mpr d1
  · rw [k4, ← e2, t]; exact Int.ofNat_le.mpr d2
theorem z_nar01 {x : Int32} (h : z_in 0 1 x) : narrow .boolean (.int x) = .int x := by
  obtain ⟨h1, h2⟩ := h
  have q : x = 0 ∨ x = 1 := by
    by_cases e : x.toInt = 0
    · exact Or.inl (Int32.toInt_inj.mp e)
    · exact Or.inr (Int32.toInt_inj.mp (by have e1 : (1 : Int32).toInt = 1 := rfl; omega))
  rcases q with rfl | rfl <;> rfl
theorem z_div {a b c d f : Int} {x y : Int32} (hx : z_in a b x) (hy : z_in c d y) (k : decide (0 ≤ a ∧ 0 < c) = true) (q : decide (f = b / c) = true) : z_in 0 f (x / y) := by
  obtain ⟨k1, k2⟩ := of_decide_eq_true k
  have q := of_decide_eq_true q
  obtain ⟨x1, x2⟩ := hx
  obtain ⟨y1, y2⟩ := hy
  have hne : y ≠ -1 := by
    intro e
    rw [e] at y1
    have e1 : (-1 : Int32).toInt = -1 := rfl
    omega
  have t := Int32.toInt_div_of_ne_right x y hne
  rw [Int.tdiv_eq_ediv_of_nonneg (by omega)] at t
  have g1 : 0 ≤ x.toInt / y.toInt := Int.ediv_nonneg (by omega) (by omega)
  have g2 : x.toInt / y.toInt ≤ b / y.toInt := Int.ediv_le_ediv (by omega) x2
  have g3 : b / y.toInt ≤ b / c := by
    refine Int.le_ediv_of_mul_le k2 ?_
    have h1 : b / y.toInt * y.toInt ≤ b := Int.ediv_mul_le b (by omega)
    have h0 : 0 ≤ b / y.toInt := Int.ediv_nonneg (by omega) (by omega)
    have h2 : b / y.toInt * c ≤ b / y.toInt * y.toInt := Int.mul_le_mul_of_nonneg_left y1 h0
    omega
  exact ⟨by omega, by omega⟩
theorem z_rem {a b c d f : Int} {x y : Int32} (hx : z_in a b x) (hy : z_in c d y) (k : decide (0 ≤ a ∧ 0 < c) = true) (q : decide (f = d - 1) = true) : z_in 0 f (x - x / y * y) := by
  obtain ⟨k1, k2⟩ := of_decide_eq_true k
  have q := of_decide_eq_true q
  obtain ⟨x1, x2⟩ := hx
  obtain ⟨y1, y2⟩ := hy
  have xl := x.toInt_lt
  have hne : y ≠ -1 := by
    intro e
    rw [e] at y1
    have e1 : (-1 : Int32).toInt = -1 := rfl
    omega
  have t := Int32.toInt_div_of_ne_right x y hne
  rw [Int.tdiv_eq_ediv_of_nonneg (by omega)] at t
  have g1 : 0 ≤ x.toInt / y.toInt := Int.ediv_nonneg (by omega) (by omega)
  have h1 : x.toInt / y.toInt * y.toInt ≤ x.toInt := Int.ediv_mul_le x.toInt (by omega)
  have h0 : 0 ≤ x.toInt / y.toInt * y.toInt := Int.mul_nonneg g1 (by omega)
  have h2 : x.toInt < (x.toInt / y.toInt + 1) * y.toInt := Int.lt_ediv_add_one_mul_self x.toInt (by omega)
  rw [Int.add_mul, Int.one_mul] at h2
  have m : (x / y * y).toInt = x.toInt / y.toInt * y.toInt := by
    rw [Int32.toInt_mul, t]
    generalize x.toInt / y.toInt * y.toInt = z at h0 h1
    exact Int.bmod_eq_of_le_mul_two (by omega) (by omega)
  have s : (x - x / y * y).toInt = x.toInt - (x / y * y).toInt := by
    rw [Int32.toInt_sub, m]
    generalize x.toInt / y.toInt * y.toInt = z at h0 h1
    exact Int.bmod_eq_of_le_mul_two (by omega) (by omega)
  exact ⟨by omega, by omega⟩
theorem z_eqk {a b : Int} {x y : Int32} (hx : z_in a b x) (k : decide (a = y.toInt ∧ b = y.toInt) = true) : x = y := by
  obtain ⟨k1, k2⟩ := of_decide_eq_true k
  obtain ⟨x1, x2⟩ := hx
  exact Int32.toInt_inj.mp (by omega)
theorem z_both {a b c d e f : Int} {x : Int32} (h : z_in a b x) (h' : z_in c d x) (k : decide ((e ≤ a ∨ e ≤ c) ∧ (b ≤ f ∨ d ≤ f)) = true) : z_in e f x := by
  obtain ⟨k1, k2⟩ := of_decide_eq_true k
  obtain ⟨x1, x2⟩ := h
  obtain ⟨y1, y2⟩ := h'
  exact ⟨by omega, by omega⟩
theorem z_ushr {f : Int} {k : Nat} (x s : Int32) (hs : ((s.toUInt32 &&& Int32.toUInt32 31).toBitVec % 32).toNat = k) (h : decide (1 ≤ k ∧ k ≤ 31 ∧ f = 2 ^ (32 - k) - 1) = true) : z_in 0 f (x.toUInt32 >>> (s.toUInt32 &&& Int32.toUInt32 31)).toInt32 := by
  obtain ⟨h1, h2, h3⟩ := of_decide_eq_true h
  have t := pk_ushr x s k hs
  have hx := x.toBitVec.isLt
  have hp : (2 : Nat) ^ 32 = 2 ^ (32 - k) * 2 ^ k := by rw [← Nat.pow_add]; congr 1; omega
  have q : x.toBitVec.toNat / 2 ^ k < 2 ^ (32 - k) := by
    rw [Nat.div_lt_iff_lt_mul (Nat.pow_pos (by decide)), ← hp]; exact hx
  have r : (2 : Nat) ^ (32 - k) ≤ 2 ^ 31 := Nat.pow_le_pow_right (by decide) (by omega)
  have o := z_ofn (x := (x.toUInt32 >>> (s.toUInt32 &&& Int32.toUInt32 31)).toInt32) (by omega)
  have e6 : ((2 ^ (32 - k) : Nat) : Int) = (2 : Int) ^ (32 - k) := by push_cast; rfl
  have e7 : ((x.toBitVec.toNat / 2 ^ k : Nat) : Int) < ((2 ^ (32 - k) : Nat) : Int) := Int.ofNat_lt.mpr q
  rw [t] at o
  exact ⟨by omega, by omega⟩
theorem z_cs1 {a : Int} {x : Int32} (h : z_in a (a + 0) x) : x.toInt = a + 0 := by
  obtain ⟨h1, h2⟩ := h
  omega
theorem z_cs2 {a : Int} {x : Int32} (h : z_in a (a + 1) x) : x.toInt = a + 0 ∨ x.toInt = a + 1 := by
  obtain ⟨h1, h2⟩ := h
  omega
theorem z_cs3 {a : Int} {x : Int32} (h : z_in a (a + 2) x) : x.toInt = a + 0 ∨ x.toInt = a + 1 ∨ x.toInt = a + 2 := by
  obtain ⟨h1, h2⟩ := h
  omega
theorem z_cs4 {a : Int} {x : Int32} (h : z_in a (a + 3) x) : x.toInt = a + 0 ∨ x.toInt = a + 1 ∨ x.toInt = a + 2 ∨ x.toInt = a + 3 := by
  obtain ⟨h1, h2⟩ := h
  omega
theorem z_cs5 {a : Int} {x : Int32} (h : z_in a (a + 4) x) : x.toInt = a + 0 ∨ x.toInt = a + 1 ∨ x.toInt = a + 2 ∨ x.toInt = a + 3 ∨ x.toInt = a + 4 := by
  obtain ⟨h1, h2⟩ := h
  omega
theorem z_cs6 {a : Int} {x : Int32} (h : z_in a (a + 5) x) : x.toInt = a + 0 ∨ x.toInt = a + 1 ∨ x.toInt = a + 2 ∨ x.toInt = a + 3 ∨ x.toInt = a + 4 ∨ x.toInt = a + 5 := by
  obtain ⟨h1, h2⟩ := h
  omega
theorem z_cs7 {a : Int} {x : Int32} (h : z_in a (a + 6) x) : x.toInt = a + 0 ∨ x.toInt = a + 1 ∨ x.toInt = a + 2 ∨ x.toInt = a + 3 ∨ x.toInt = a + 4 ∨ x.toInt = a + 5 ∨ x.toInt = a + 6 := by
  obtain ⟨h1, h2⟩ := h
  omega
/-- a row of ints by regions: from, to, least, greatest -/
def z_ar (R : List (Nat × Nat × Int × Int)) (f : Nat → Int32) : Prop := ∀ q ∈ R, ∀ i : Nat, q.1 ≤ i → i ≤ q.2.1 → z_in q.2.2.1 q.2.2.2 (f i)
theorem z_cl {a b : Int} {x : Int32} (hx : z_in a b x) (h : 0 ≤ a) : (x.toNatClampNeg : Int) = x.toInt := by
  obtain ⟨x1, x2⟩ := hx
  show ((x.toInt.toNat : Nat) : Int) = x.toInt
  omega
theorem z_arg {R : List (Nat × Nat × Int × Int)} {f : Nat → Int32} {a b : Int} {i : Int32} {q : Nat × Nat × Int × Int} (hf : z_ar R f) (k : Nat) (hk : R[k]? = some q) (hi : z_in a b i) (h : decide (0 ≤ a ∧ (q.1 : Int) ≤ a ∧ b ≤ (q.2.1 : Int)) = true) : z_in q.2.2.1 q.2.2.2 (f i.toNatClampNeg) := by
  obtain ⟨h1, h2, h3⟩ := of_decide_eq_true h
  have c := z_cl hi h1
  obtain ⟨i1, i2⟩ := hi
  exact hf q (List.mem_of_getElem? hk) _ (by omega) (by omega)
theorem z_arN {R : List (Nat × Nat × Int × Int)} {f : Nat → Int32} {a b : Int} {lo hi : Nat} (hf : z_ar R f) (k j : Nat) (hk : R[k]? = some (lo, hi, a, b)) (h : decide (lo ≤ j ∧ j ≤ hi) = true) : z_in a b (f j) := by
  obtain ⟨h1, h2⟩ := of_decide_eq_true h
  exact hf (lo, hi, a, b) (List.mem_of_getElem? hk) j h1 h2
theorem z_aru {R : List (Nat × Nat × Int × Int)} {f : Nat → Int32} {a b lo hi : Int} {i x : Int32} (hf : z_ar R f) (hi' : z_in a b i) (hx : z_in lo hi x) (h : (decide (0 ≤ a) && R.all (fun q => decide (b < (q.1 : Int)) || decide ((q.2.1 : Int) < a) || (decide (q.2.2.1 ≤ lo) && decide (hi ≤ q.2.2.2)))) = true) : z_ar R (upd f i.toNatClampNeg x) := by
  rw [Bool.and_eq_true] at h
  obtain ⟨h0, h⟩ := h
  have h0 := of_decide_eq_true h0
  have c := z_cl hi' h0
  obtain ⟨i1, i2⟩ := hi'
  intro q hq j j1 j2
  simp only [upd]
  by_cases e : j = i.toNatClampNeg
  · rw [if_pos e]
    have g := List.all_eq_true.mp h q hq
    simp only [Bool.or_eq_true, Bool.and_eq_true, decide_eq_true_eq] at g
    rcases g with (g | g) | g
    · omega
    · omega
    · exact ⟨Int.le_trans g.1 hx.1, Int.le_trans hx.2 g.2⟩
  · rw [if_neg e]; exact hf q hq j j1 j2
theorem z_arc {R R' : List (Nat × Nat × Int × Int)} {f g : Nat → Int32} {a b a' b' d : Int} {i j : Int32} (hf : z_ar R f) (hg : z_ar R' g) (hj : z_in a' b' j) (hi : z_in a b i) (hd : i.toInt = j.toInt + d) (h : (decide (0 ≤ a ∧ 0 ≤ a') && R'.all (fun q => decide (b < (q.1 : Int)) || decide ((q.2.1 : Int) < a) || R.any (fun r => decide ((r.1 : Int) + d = q.1 ∧ (r.2.1 : Int) + d = q.2.1 ∧ r.2.2.1 = q.2.2.1 ∧ r.2.2.2 = q.2.2.2)))) = true) : z_ar R' (upd g i.toNatClampNeg (f j.toNatClampNeg)) := by
  rw [Bool.and_eq_true] at h
  obtain ⟨h0, h⟩ := h
  have h0 := of_decide_eq_true h0
  have c := z_cl hi h0.1
  have c' := z_cl hj h0.2
  obtain ⟨i1, i2⟩ := hi
  intro q hq k k1 k2
  simp only [upd]
  by_cases e : k = i.toNatClampNeg
  · rw [if_pos e]
    have w := List.all_eq_true.mp h q hq
    simp only [Bool.or_eq_true, decide_eq_true_eq] at w
    rcases w with (w | w) | w
    · omega
    · omega
    · obtain ⟨r, hr, w⟩ := List.any_eq_true.mp w
      have w := of_decide_eq_true w
      obtain ⟨w1, w2, w3, w4⟩ := w
      rw [← w3, ← w4]
      exact hf r hr _ (by omega) (by omega)
  · rw [if_neg e]; exact hg q hq k k1 k2
theorem z_decr {x : Int32} (h : ¬ x = 0) : (x &&& (x - 1)).toBitVec.toNat < x.toBitVec.toNat := by
  have hx : ¬ x.toBitVec.toNat = 0 := by
    intro e
    apply h
    apply Int32.toBitVec_inj.mp
    apply BitVec.eq_of_toNat_eq
    rw [e]; rfl
  have e1 : (x &&& (x - 1)).toBitVec.toNat = x.toBitVec.toNat &&& (x - 1).toBitVec.toNat := by rw [Int32.toBitVec_and, BitVec.toNat_and]
  have e2 : (x - 1).toBitVec.toNat = x.toBitVec.toNat - 1 := by
    have hl := x.toBitVec.isLt
    rw [Int32.toBitVec_sub, BitVec.toNat_sub]
    have e3 : (1 : Int32).toBitVec.toNat = 1 := rfl
    rw [e3]
    omega
  have e3 : x.toBitVec.toNat &&& (x - 1).toBitVec.toNat ≤ (x - 1).toBitVec.toNat := Nat.and_le_right
  omega
theorem z_cs8 {a : Int} {x : Int32} (h : z_in a (a + 7) x) : x.toInt = a + 0 ∨ x.toInt = a + 1 ∨ x.toInt = a + 2 ∨ x.toInt = a + 3 ∨ x.toInt = a + 4 ∨ x.toInt = a + 5 ∨ x.toInt = a + 6 ∨ x.toInt = a + 7 := by
  obtain ⟨h1, h2⟩ := h
  omega
theorem z_cs9 {a : Int} {x : Int32} (h : z_in a (a + 8) x) : x.toInt = a + 0 ∨ x.toInt = a + 1 ∨ x.toInt = a + 2 ∨ x.toInt = a + 3 ∨ x.toInt = a + 4 ∨ x.toInt = a + 5 ∨ x.toInt = a + 6 ∨ x.toInt = a + 7 ∨ x.toInt = a + 8 := by
  obtain ⟨h1, h2⟩ := h
  omega
theorem z_bn {x : Int32} (h : z_in 0 1 x) : z_in 0 1 (vp_nar .boolean x) := by
  have e := z_nar01 h
  unfold vp_nar
  rw [e]
  exact h
/-- many at once: a long row of exists or of ands is opened slowly one by one -/
theorem z_ex1 {a1 : Type} {P : a1 → Prop} {Q : Prop} (h : ∃ (x1 : a1), P x1) (k : ∀ (x1 : a1), P x1 → Q) : Q := by
  obtain ⟨x1, h⟩ := h
  exact k x1 h
theorem z_an1 {p1 q Q : Prop} (h : p1 ∧ q) (k : p1 → q → Q) : Q := k h.1 h.2
theorem z_ex2 {a1 a2 : Type} {P : a1 → a2 → Prop} {Q : Prop} (h : ∃ (x1 : a1) (x2 : a2), P x1 x2) (k : ∀ (x1 : a1) (x2 : a2), P x1 x2 → Q) : Q := by
  obtain ⟨x1, x2, h⟩ := h
  exact k x1 x2 h
theorem z_an2 {p1 p2 q Q : Prop} (h : p1 ∧ p2 ∧ q) (k : p1 → p2 → q → Q) : Q := k h.1 h.2.1 h.2.2
theorem z_ex3 {a1 a2 a3 : Type} {P : a1 → a2 → a3 → Prop} {Q : Prop} (h : ∃ (x1 : a1) (x2 : a2) (x3 : a3), P x1 x2 x3) (k : ∀ (x1 : a1) (x2 : a2) (x3 : a3), P x1 x2 x3 → Q) : Q := by
  obtain ⟨x1, x2, x3, h⟩ := h
  exact k x1 x2 x3 h
theorem z_an3 {p1 p2 p3 q Q : Prop} (h : p1 ∧ p2 ∧ p3 ∧ q) (k : p1 → p2 → p3 → q → Q) : Q := k h.1 h.2.1 h.2.2.1 h.2.2.2
theorem z_ex4 {a1 a2 a3 a4 : Type} {P : a1 → a2 → a3 → a4 → Prop} {Q : Prop} (h : ∃ (x1 : a1) (x2 : a2) (x3 : a3) (x4 : a4), P x1 x2 x3 x4) (k : ∀ (x1 : a1) (x2 : a2) (x3 : a3) (x4 : a4), P x1 x2 x3 x4 → Q) : Q := by
  obtain ⟨x1, x2, x3, x4, h⟩ := h
  exact k x1 x2 x3 x4 h
theorem z_an4 {p1 p2 p3 p4 q Q : Prop} (h : p1 ∧ p2 ∧ p3 ∧ p4 ∧ q) (k : p1 → p2 → p3 → p4 → q → Q) : Q := k h.1 h.2.1 h.2.2.1 h.2.2.2.1 h.2.2.2.2
theorem z_ex5 {a1 a2 a3 a4 a5 : Type} {P : a1 → a2 → a3 → a4 → a5 → Prop} {Q : Prop} (h : ∃ (x1 : a1) (x2 : a2) (x3 : a3) (x4 : a4) (x5 : a5), P x1 x2 x3 x4 x5) (k : ∀ (x1 : a1) (x2 : a2) (x3 : a3) (x4 : a4) (x5 : a5), P x1 x2 x3 x4 x5 → Q) : Q := by
  obtain ⟨x1, x2, x3, x4, x5, h⟩ := h
  exact k x1 x2 x3 x4 x5 h
theorem z_an5 {p1 p2 p3 p4 p5 q Q : Prop} (h : p1 ∧ p2 ∧ p3 ∧ p4 ∧ p5 ∧ q) (k : p1 → p2 → p3 → p4 → p5 → q → Q) : Q := k h.1 h.2.1 h.2.2.1 h.2.2.2.1 h.2.2.2.2.1 h.2.2.2.2.2
theorem z_ex6 {a1 a2 a3 a4 a5 a6 : Type} {P : a1 → a2 → a3 → a4 → a5 → a6 → Prop} {Q : Prop} (h : ∃ (x1 : a1) (x2 : a2) (x3 : a3) (x4 : a4) (x5 : a5) (x6 : a6), P x1 x2 x3 x4 x5 x6) (k : ∀ (x1 : a1) (x2 : a2) (x3 : a3) (x4 : a4) (x5 : a5) (x6 : a6), P x1 x2 x3 x4 x5 x6 → Q) : Q := by
  obtain ⟨x1, x2, x3, x4, x5, x6, h⟩ := h
  exact k x1 x2 x3 x4 x5 x6 h
theorem z_an6 {p1 p2 p3 p4 p5 p6 q Q : Prop} (h : p1 ∧ p2 ∧ p3 ∧ p4 ∧ p5 ∧ p6 ∧ q) (k : p1 → p2 → p3 → p4 → p5 → p6 → q → Q) : Q := k h.1 h.2.1 h.2.2.1 h.2.2.2.1 h.2.2.2.2.1 h.2.2.2.2.2.1 h.2.2.2.2.2.2
theorem z_ex7 {a1 a2 a3 a4 a5 a6 a7 : Type} {P : a1 → a2 → a3 → a4 → a5 → a6 → a7 → Prop} {Q : Prop} (h : ∃ (x1 : a1) (x2 : a2) (x3 : a3) (x4 : a4) (x5 : a5) (x6 : a6) (x7 : a7), P x1 x2 x3 x4 x5 x6 x7) (k : ∀ (x1 : a1) (x2 : a2) (x3 : a3) (x4 : a4) (x5 : a5) (x6 : a6) (x7 : a7), P x1 x2 x3 x4 x5 x6 x7 → Q) : Q := by
  obtain ⟨x1, x2, x3, x4, x5, x6, x7, h⟩ := h
  exact k x1 x2 x3 x4 x5 x6 x7 h
theorem z_an7 {p1 p2 p3 p4 p5 p6 p7 q Q : Prop} (h : p1 ∧ p2 ∧ p3 ∧ p4 ∧ p5 ∧ p6 ∧ p7 ∧ q) (k : p1 → p2 → p3 → p4 → p5 → p6 → p7 → q → Q) : Q := k h.1 h.2.1 h.2.2.1 h.2.2.2.1 h.2.2.2.2.1 h.2.2.2.2.2.1 h.2.2.2.2.2.2.1 h.2.2.2.2.2.2.2
theorem z_ex8 {a1 a2 a3 a4 a5 a6 a7 a8 : Type} {P : a1 → a2 → a3 → a4 → a5 → a6 → a7 → a8 → Prop} {Q : Prop} (h : ∃ (x1 : a1) (x2 : a2) (x3 : a3) (x4 : a4) (x5 : a5) (x6 : a6) (x7 : a7) (x8 : a8), P x1 x2 x3 x4 x5 x6 x7 x8) (k : ∀ (x1 : a1) (x2 : a2) (x3 : a3) (x4 : a4) (x5 : a5) (x6 : a6) (x7 : a7) (x8 : a8), P x1 x2 x3 x4 x5 x6 x7 x8 → Q) : Q := by
  obtain ⟨x1, x2, x3, x4, x5, x6, x7, x8, h⟩ := h
  exact k x1 x2 x3 x4 x5 x6 x7 x8 h
theorem z_an8 {p1 p2 p3 p4 p5 p6 p7 p8 q Q : Prop} (h : p1 ∧ p2 ∧ p3 ∧ p4 ∧ p5 ∧ p6 ∧ p7 ∧ p8 ∧ q) (k : p1 → p2 → p3 → p4 → p5 → p6 → p7 → p8 → q → Q) : Q := k h.1 h.2.1 h.2.2.1 h.2.2.2.1 h.2.2.2.2.1 h.2.2.2.2.2.1 h.2.2.2.2.2.2.1 h.2.2.2.2.2.2.2.1 h.2.2.2.2.2.2.2.2
theorem z_ex9 {a1 a2 a3 a4 a5 a6 a7 a8 a9 : Type} {P : a1 → a2 → a3 → a4 → a5 → a6 → a7 → a8 → a9 → Prop} {Q : Prop} (h : ∃ (x1 : a1) (x2 : a2) (x3 : a3) (x4 : a4) (x5 : a5) (x6 : a6) (x7 : a7) (x8 : a8) (x9 : a9), P x1 x2 x3 x4 x5 x6 x7 x8 x9) (k : ∀ (x1 : a1) (x2 : a2) (x3 : a3) (x4 : a4) (x5 : a5) (x6 : a6) (x7 : a7) (x8 : a8) (x9 : a9), P x1 x2 x3 x4 x5 x6 x7 x8 x9 → Q) : Q := by
  obtain ⟨x1, x2, x3, x4, x5, x6, x7, x8, x9, h⟩ := h
  exact k x1 x2 x3 x4 x5 x6 x7 x8 x9 h
theorem z_an9 {p1 p2 p3 p4 p5 p6 p7 p8 p9 q Q : Prop} (h : p1 ∧ p2 ∧ p3 ∧ p4 ∧ p5 ∧ p6 ∧ p7 ∧ p8 ∧ p9 ∧ q) (k : p1 → p2 → p3 → p4 → p5 → p6 → p7 → p8 → p9 → q → Q) : Q := k h.1 h.2.1 h.2.2.1 h.2.2.2.1 h.2.2.2.2.1 h.2.2.2.2.2.1 h.2.2.2.2.2.2.1 h.2.2.2.2.2.2.2.1 h.2.2.2.2.2.2.2.2.1 h.2.2.2.2.2.2.2.2.2
theorem z_ex10 {a1 a2 a3 a4 a5 a6 a7 a8 a9 a10 : Type} {P : a1 → a2 → a3 → a4 → a5 → a6 → a7 → a8 → a9 → a10 → Prop} {Q : Prop} (h : ∃ (x1 : a1) (x2 : a2) (x3 : a3) (x4 : a4) (x5 : a5) (x6 : a6) (x7 : a7) (x8 : a8) (x9 : a9) (x10 : a10), P x1 x2 x3 x4 x5 x6 x7 x8 x9 x10) (k : ∀ (x1 : a1) (x2 : a2) (x3 : a3) (x4 : a4) (x5 : a5) (x6 : a6) (x7 : a7) (x8 : a8) (x9 : a9) (x10 : a10), P x1 x2 x3 x4 x5 x6 x7 x8 x9 x10 → Q) : Q := by
  obtain ⟨x1, x2, x3, x4, x5, x6, x7, x8, x9, x10, h⟩ := h
  exact k x1 x2 x3 x4 x5 x6 x7 x8 x9 x10 h
theorem z_an10 {p1 p2 p3 p4 p5 p6 p7 p8 p9 p10 q Q : Prop} (h : p1 ∧ p2 ∧ p3 ∧ p4 ∧ p5 ∧ p6 ∧ p7 ∧ p8 ∧ p9 ∧ p10 ∧ q) (k : p1 → p2 → p3 → p4 → p5 → p6 → p7 → p8 → p9 → p10 → q → Q) : Q := k h.1 h.2.1 h.2.2.1 h.2.2.2.1 h.2.2.2.2.1 h.2.2.2.2.2.1 h.2.2.2.2.2.2.1 h.2.2.2.2.2.2.2.1 h.2.2.2.2.2.2.2.2.1 h.2.2.2.2.2.2.2.2.2.1 h.2.2.2.2.2.2.2.2.2.2
theorem z_ex11 {a1 a2 a3 a4 a5 a6 a7 a8 a9 a10 a11 : Type} {P : a1 → a2 → a3 → a4 → a5 → a6 → a7 → a8 → a9 → a10 → a11 → Prop} {Q : Prop} (h : ∃ (x1 : a1) (x2 : a2) (x3 : a3) (x4 : a4) (x5 : a5) (x6 : a6) (x7 : a7) (x8 : a8) (x9 : a9) (x10 : a10) (x11 : a11), P x1 x2 x3 x4 x5 x6 x7 x8 x9 x10 x11) (k : ∀ (x1 : a1) (x2 : a2) (x3 : a3) (x4 : a4) (x5 : a5) (x6 : a6) (x7 : a7) (x8 : a8) (x9 : a9) (x10 : a10) (x11 : a11), P x1 x2 x3 x4 x5 x6 x7 x8 x9 x10 x11 → Q) : Q := by
  obtain ⟨x1, x2, x3, x4, x5, x6, x7, x8, x9, x10, x11, h⟩ := h
  exact k x1 x2 x3 x4 x5 x6 x7 x8 x9 x10 x11 h
theorem z_an11 {p1 p2 p3 p4 p5 p6 p7 p8 p9 p10 p11 q Q : Prop} (h : p1 ∧ p2 ∧ p3 ∧ p4 ∧ p5 ∧ p6 ∧ p7 ∧ p8 ∧ p9 ∧ p10 ∧ p11 ∧ q) (k : p1 → p2 → p3 → p4 → p5 → p6 → p7 → p8 → p9 → p10 → p11 → q → Q) : Q := k h.1 h.2.1 h.2.2.1 h.2.2.2.1 h.2.2.2.2.1 h.2.2.2.2.2.1 h.2.2.2.2.2.2.1 h.2.2.2.2.2.2.2.1 h.2.2.2.2.2.2.2.2.1 h.2.2.2.2.2.2.2.2.2.1 h.2.2.2.2.2.2.2.2.2.2.1 h.2.2.2.2.2.2.2.2.2.2.2
theorem z_ex12 {a1 a2 a3 a4 a5 a6 a7 a8 a9 a10 a11 a12 : Type} {P : a1 → a2 → a3 → a4 → a5 → a6 → a7 → a8 → a9 → a10 → a11 → a12 → Prop} {Q : Prop} (h : ∃ (x1 : a1) (x2 : a2) (x3 : a3) (x4 : a4) (x5 : a5) (x6 : a6) (x7 : a7) (x8 : a8) (x9 : a9) (x10 : a10) (x11 : a11) (x12 : a12), P x1 x2 x3 x4 x5 x6 x7 x8 x9 x10 x11 x12) (k : ∀ (x1 : a1) (x2 : a2) (x3 : a3) (x4 : a4) (x5 : a5) (x6 : a6) (x7 : a7) (x8 : a8) (x9 : a9) (x10 : a10) (x11 : a11) (x12 : a12), P x1 x2 x3 x4 x5 x6 x7 x8 x9 x10 x11 x12 → Q) : Q := by
  obtain ⟨x1, x2, x3, x4, x5, x6, x7, x8, x9, x10, x11, x12, h⟩ := h
  exact k x1 x2 x3 x4 x5 x6 x7 x8 x9 x10 x11 x12 h
theorem z_an12 {p1 p2 p3 p4 p5 p6 p7 p8 p9 p10 p11 p12 q Q : Prop} (h : p1 ∧ p2 ∧ p3 ∧ p4 ∧ p5 ∧ p6 ∧ p7 ∧ p8 ∧ p9 ∧ p10 ∧ p11 ∧ p12 ∧ q) (k : p1 → p2 → p3 → p4 → p5 → p6 → p7 → p8 → p9 → p10 → p11 → p12 → q → Q) : Q := k h.1 h.2.1 h.2.2.1 h.2.2.2.1 h.2.2.2.2.1 h.2.2.2.2.2.1 h.2.2.2.2.2.2.1 h.2.2.2.2.2.2.2.1 h.2.2.2.2.2.2.2.2.1 h.2.2.2.2.2.2.2.2.2.1 h.2.2.2.2.2.2.2.2.2.2.1 h.2.2.2.2.2.2.2.2.2.2.2.1 h.2.2.2.2.2.2.2.2.2.2.2.2
theorem z_ex13 {a1 a2 a3 a4 a5 a6 a7 a8 a9 a10 a11 a12 a13 : Type} {P : a1 → a2 → a3 → a4 → a5 → a6 → a7 → a8 → a9 → a10 → a11 → a12 → a13 → Prop} {Q : Prop} (h : ∃ (x1 : a1) (x2 : a2) (x3 : a3) (x4 : a4) (x5 : a5) (x6 : a6) (x7 : a7) (x8 : a8) (x9 : a9) (x10 : a10) (x11 : a11) (x12 : a12) (x13 : a13), P x1 x2 x3 x4 x5 x6 x7 x8 x9 x10 x11 x12 x13) (k : ∀ (x1 : a1) (x2 : a2) (x3 : a3) (x4 : a4) (x5 : a5) (x6 : a6) (x7 : a7) (x8 : a8) (x9 : a9) (x10 : a10) (x11 : a11) (x12 : a12) (x13 : a13), P x1 x2 x3 x4 x5 x6 x7 x8 x9 x10 x11 x12 x13 → Q) : Q := by
  obtain ⟨x1, x2, x3, x4, x5, x6, x7, x8, x9, x10, x11, x12, x13, h⟩ := h
  exact k x1 x2 x3 x4 x5 x6 x7 x8 x9 x10 x11 x12 x13 h
theorem z_an13 {p1 p2 p3 p4 p5 p6 p7 p8 p9 p10 p11 p12 p13 q Q : Prop} (h : p1 ∧ p2 ∧ p3 ∧ p4 ∧ p5 ∧ p6 ∧ p7 ∧ p8 ∧ p9 ∧ p10 ∧ p11 ∧ p12 ∧ p13 ∧ q) (k : p1 → p2 → p3 → p4 → p5 → p6 → p7 → p8 → p9 → p10 → p11 → p12 → p13 → q → Q) : Q := k h.1 h.2.1 h.2.2.1 h.2.2.2.1 h.2.2.2.2.1 h.2.2.2.2.2.1 h.2.2.2.2.2.2.1 h.2.2.2.2.2.2.2.1 h.2.2.2.2.2.2.2.2.1 h.2.2.2.2.2.2.2.2.2.1 h.2.2.2.2.2.2.2.2.2.2.1 h.2.2.2.2.2.2.2.2.2.2.2.1 h.2.2.2.2.2.2.2.2.2.2.2.2.1 h.2.2.2.2.2.2.2.2.2.2.2.2.2
theorem z_ex14 {a1 a2 a3 a4 a5 a6 a7 a8 a9 a10 a11 a12 a13 a14 : Type} {P : a1 → a2 → a3 → a4 → a5 → a6 → a7 → a8 → a9 → a10 → a11 → a12 → a13 → a14 → Prop} {Q : Prop} (h : ∃ (x1 : a1) (x2 : a2) (x3 : a3) (x4 : a4) (x5 : a5) (x6 : a6) (x7 : a7) (x8 : a8) (x9 : a9) (x10 : a10) (x11 : a11) (x12 : a12) (x13 : a13) (x14 : a14), P x1 x2 x3 x4 x5 x6 x7 x8 x9 x10 x11 x12 x13 x14) (k : ∀ (x1 : a1) (x2 : a2) (x3 : a3) (x4 : a4) (x5 : a5) (x6 : a6) (x7 : a7) (x8 : a8) (x9 : a9) (x10 : a10) (x11 : a11) (x12 : a12) (x13 : a13) (x14 : a14), P x1 x2 x3 x4 x5 x6 x7 x8 x9 x10 x11 x12 x13 x14 → Q) : Q := by
  obtain ⟨x1, x2, x3, x4, x5, x6, x7, x8, x9, x10, x11, x12, x13, x14, h⟩ := h
  exact k x1 x2 x3 x4 x5 x6 x7 x8 x9 x10 x11 x12 x13 x14 h
theorem z_an14 {p1 p2 p3 p4 p5 p6 p7 p8 p9 p10 p11 p12 p13 p14 q Q : Prop} (h : p1 ∧ p2 ∧ p3 ∧ p4 ∧ p5 ∧ p6 ∧ p7 ∧ p8 ∧ p9 ∧ p10 ∧ p11 ∧ p12 ∧ p13 ∧ p14 ∧ q) (k : p1 → p2 → p3 → p4 → p5 → p6 → p7 → p8 → p9 → p10 → p11 → p12 → p13 → p14 → q → Q) : Q := k h.1 h.2.1 h.2.2.1 h.2.2.2.1 h.2.2.2.2.1 h.2.2.2.2.2.1 h.2.2.2.2.2.2.1 h.2.2.2.2.2.2.2.1 h.2.2.2.2.2.2.2.2.1 h.2.2.2.2.2.2.2.2.2.1 h.2.2.2.2.2.2.2.2.2.2.1 h.2.2.2.2.2.2.2.2.2.2.2.1 h.2.2.2.2.2.2.2.2.2.2.2.2.1 h.2.2.2.2.2.2.2.2.2.2.2.2.2.1 h.2.2.2.2.2.2.2.2.2.2.2.2.2.2
theorem z_ex15 {a1 a2 a3 a4 a5 a6 a7 a8 a9 a10 a11 a12 a13 a14 a15 : Type} {P : a1 → a2 → a3 → a4 → a5 → a6 → a7 → a8 → a9 → a10 → a11 → a12 → a13 → a14 → a15 → Prop} {Q : Prop} (h : ∃ (x1 : a1) (x2 : a2) (x3 : a3) (x4 : a4) (x5 : a5) (x6 : a6) (x7 : a7) (x8 : a8) (x9 : a9) (x10 : a10) (x11 : a11) (x12 : a12) (x13 : a13) (x14 : a14) (x15 : a15), P x1 x2 x3 x4 x5 x6 x7 x8 x9 x10 x11 x12 x13 x14 x15) (k : ∀ (x1 : a1) (x2 : a2) (x3 : a3) (x4 : a4) (x5 : a5) (x6 : a6) (x7 : a7) (x8 : a8) (x9 : a9) (x10 : a10) (x11 : a11) (x12 : a12) (x13 : a13) (x14 : a14) (x15 : a15), P x1 x2 x3 x4 x5 x6 x7 x8 x9 x10 x11 x12 x13 x14 x15 → Q) : Q := by
  obtain ⟨x1, x2, x3, x4, x5, x6, x7, x8, x9, x10, x11, x12, x13, x14, x15, h⟩ := h
  exact k x1 x2 x3 x4 x5 x6 x7 x8 x9 x10 x11 x12 x13 x14 x15 h
theorem z_an15 {p1 p2 p3 p4 p5 p6 p7 p8 p9 p10 p11 p12 p13 p14 p15 q Q : Prop} (h : p1 ∧ p2 ∧ p3 ∧ p4 ∧ p5 ∧ p6 ∧ p7 ∧ p8 ∧ p9 ∧ p10 ∧ p11 ∧ p12 ∧ p13 ∧ p14 ∧ p15 ∧ q) (k : p1 → p2 → p3 → p4 → p5 → p6 → p7 → p8 → p9 → p10 → p11 → p12 → p13 → p14 → p15 → q → Q) : Q := k h.1 h.2.1 h.2.2.1 h.2.2.2.1 h.2.2.2.2.1 h.2.2.2.2.2.1 h.2.2.2.2.2.2.1 h.2.2.2.2.2.2.2.1 h.2.2.2.2.2.2.2.2.1 h.2.2.2.2.2.2.2.2.2.1 h.2.2.2.2.2.2.2.2.2.2.1 h.2.2.2.2.2.2.2.2.2.2.2.1 h.2.2.2.2.2.2.2.2.2.2.2.2.1 h.2.2.2.2.2.2.2.2.2.2.2.2.2.1 h.2.2.2.2.2.2.2.2.2.2.2.2.2.2.1 h.2.2.2.2.2.2.2.2.2.2.2.2.2.2.2
theorem z_ex16 {a1 a2 a3 a4 a5 a6 a7 a8 a9 a10 a11 a12 a13 a14 a15 a16 : Type} {P : a1 → a2 → a3 → a4 → a5 → a6 → a7 → a8 → a9 → a10 → a11 → a12 → a13 → a14 → a15 → a16 → Prop} {Q : Prop} (h : ∃ (x1 : a1) (x2 : a2) (x3 : a3) (x4 : a4) (x5 : a5) (x6 : a6) (x7 : a7) (x8 : a8) (x9 : a9) (x10 : a10) (x11 : a11) (x12 : a12) (x13 : a13) (x14 : a14) (x15 : a15) (x16 : a16), P x1 x2 x3 x4 x5 x6 x7 x8 x9 x10 x11 x12 x13 x14 x15 x16) (k : ∀ (x1 : a1) (x2 : a2) (x3 : a3) (x4 : a4) (x5 : a5) (x6 : a6) (x7 : a7) (x8 : a8) (x9 : a9) (x10 : a10) (x11 : a11) (x12 : a12) (x13 : a13) (x14 : a14) (x15 : a15) (x16 : a16), P x1 x2 x3 x4 x5 x6 x7 x8 x9 x10 x11 x12 x13 x14 x15 x16 → Q) : Q := by
  obtain ⟨x1, x2, x3, x4, x5, x6, x7, x8, x9, x10, x11, x12, x13, x14, x15, x16, h⟩ := h
  exact k x1 x2 x3 x4 x5 x6 x7 x8 x9 x10 x11 x12 x13 x14 x15 x16 h
theorem z_an16 {p1 p2 p3 p4 p5 p6 p7 p8 p9 p10 p11 p12 p13 p14 p15 p16 q Q : Prop} (h : p1 ∧ p2 ∧ p3 ∧ p4 ∧ p5 ∧ p6 ∧ p7 ∧ p8 ∧ p9 ∧ p10 ∧ p11 ∧ p12 ∧ p13 ∧ p14 ∧ p15 ∧ p16 ∧ q) (k : p1 → p2 → p3 → p4 → p5 → p6 → p7 → p8 → p9 → p10 → p11 → p12 → p13 → p14 → p15 → p16 → q → Q) : Q := k h.1 h.2.1 h.2.2.1 h.2.2.2.1 h.2.2.2.2.1 h.2.2.2.2.2.1 h.2.2.2.2.2.2.1 h.2.2.2.2.2.2.2.1 h.2.2.2.2.2.2.2.2.1 h.2.2.2.2.2.2.2.2.2.1 h.2.2.2.2.2.2.2.2.2.2.1 h.2.2.2.2.2.2.2.2.2.2.2.1 h.2.2.2.2.2.2.2.2.2.2.2.2.1 h.2.2.2.2.2.2.2.2.2.2.2.2.2.1 h.2.2.2.2.2.2.2.2.2.2.2.2.2.2.1 h.2.2.2.2.2.2.2.2.2.2.2.2.2.2.2.1 h.2.2.2.2.2.2.2.2.2.2.2.2.2.2.2.2
theorem g_c9 {big l : List Cond} {w : Cond} (h1 : w ∈ big) (h2 : goodWord w = true) (h : GoodIn big l) : GoodIn big (w :: l) := fun x hx => (List.mem_cons.mp hx).elim (fun e => by rw [e]; exact ⟨h1, good_of_word h2⟩) (h x)
theorem g_n9 {big : List Cond} : GoodIn big [] := fun _ h => absurd h List.not_mem_nil
