/-! the tape's length, behind the calls that change it -/
def z_ad1 (t x : Int32) : Prop := t.toInt < 940 → x.toInt = t.toInt + 1
def z_ad4 (t x : Int32) : Prop := t.toInt ≤ 936 → x.toInt = t.toInt + 4
def z_a4 (t x : Int32) : Prop := x.toInt = t.toInt + 4
def z_tf (r x t : Int32) : Prop := (t.toInt ≤ 920 ∧ x.toInt = t.toInt + 20 ∧ r = x) ∨ (920 < t.toInt ∧ x = t ∧ r = -1)
def z_te (r x t k : Int32) : Prop := ((0 ≤ k.toInt ∧ k.toInt ≤ t.toInt) ∧ x = k ∧ r = 1) ∨ (¬ (0 ≤ k.toInt ∧ k.toInt ≤ t.toInt) ∧ x = t ∧ r = 0)
def z_tz (x : Int32) : Prop := x = 0
def z_tb (x t k : Int32) : Prop := (z_in 0 1 k ∧ x = 0) ∨ (¬ z_in 0 1 k ∧ x = t)
theorem z_ad1n {t : Int32} (h : z_in 940 940 t) : z_ad1 t t := fun q => absurd (Int.lt_of_le_of_lt h.1 q) (by decide)
theorem z_ad4c {t a b c x : Int32} (h1 : z_ad1 t a) (h2 : z_ad1 a b) (h3 : z_ad1 b c) (h4 : z_ad1 c x) : z_ad4 t x := by
  intro h
  have q1 := h1 (by omega)
  have q2 := h2 (by omega)
  have q3 := h3 (by omega)
  have q4 := h4 (by omega)
  omega
theorem z_tfc {y t a b c d x : Int32} (hy : y.toInt = t.toInt + 20) (h : y.toInt ≤ 940) (h1 : z_ad4 t a) (h2 : z_ad4 a b) (h3 : z_ad4 b c) (h4 : z_ad4 c d) (h5 : z_ad4 d x) : z_tf x x t := by
  have q1 := h1 (by omega)
  have q2 := h2 (by omega)
  have q3 := h3 (by omega)
  have q4 := h4 (by omega)
  have q5 := h5 (by omega)
  exact Or.inl ⟨by omega, by omega, rfl⟩
theorem z_tfm {y t a b c d x : Int32} (hy : y.toInt = t.toInt + 20) (h : y.toInt ≤ 940) (h1 : z_a4 t a) (h2 : z_a4 a b) (h3 : z_a4 b c) (h4 : z_a4 c d) (h5 : z_a4 d x) : z_tf x x t := by
  unfold z_a4 at h1 h2 h3 h4 h5
  exact Or.inl ⟨by omega, by omega, rfl⟩
theorem z_tfn {y t : Int32} (hy : y.toInt = t.toInt + 20) (h : 941 ≤ y.toInt) : z_tf (-1) t t := Or.inr ⟨by omega, rfl, rfl⟩
theorem z_teT {t k : Int32} (h0 : 0 ≤ k.toInt) (h : k ≤ t) : z_te 1 k t k := Or.inl ⟨⟨h0, Int32.le_iff_toInt_le.mp h⟩, rfl, rfl⟩
theorem z_teN {t k : Int32} (h : k.toInt ≤ -1) : z_te 0 t t k := Or.inr ⟨fun q => by have := q.1; omega, rfl, rfl⟩
theorem z_teG {t k : Int32} (h : t < k) : z_te 0 t t k := Or.inr ⟨fun q => by have := q.2; have := Int32.lt_iff_toInt_lt.mp h; omega, rfl, rfl⟩
theorem z_tbI {x t k : Int32} (h : z_in 0 1 k) (hx : z_tz x) : z_tb x t k := Or.inl ⟨h, hx⟩
theorem z_tbN {t k : Int32} (h0 : ¬ k = 0) (h1 : ¬ k = 1) : z_tb t t k := by
  refine Or.inr ⟨fun q => ?_, rfl⟩
  have q1 := q.1
  have q2 := q.2
  have e : k.toInt = 0 ∨ k.toInt = 1 := by omega
  rcases e with e | e
  · exact h0 (Int32.toInt_inj.mp (e.trans (by decide)))
  · exact h1 (Int32.toInt_inj.mp (e.trans (by decide)))
theorem z_tbL {t k : Int32} (h : k.toInt ≤ -1) : z_tb t t k := Or.inr ⟨fun q => by have := q.1; omega, rfl⟩
theorem z_tbH {t k : Int32} (h : 2 ≤ k.toInt) : z_tb t t k := Or.inr ⟨fun q => by have := q.2; omega, rfl⟩
theorem z_tfE {r x r' x' t : Int32} (h : z_tf r x t) (h' : z_tf r' x' t) : r = r' ∧ x = x' := by
  rcases h with ⟨a, b, c⟩ | ⟨a, b, c⟩ <;> rcases h' with ⟨a', b', c'⟩ | ⟨a', b', c'⟩
  · have e : x = x' := Int32.toInt_inj.mp (by omega)
    exact ⟨c.trans (e.trans c'.symm), e⟩
  · omega
  · omega
  · exact ⟨c.trans c'.symm, b.trans b'.symm⟩
theorem z_teE {r x r' x' t k : Int32} (h : z_te r x t k) (h' : z_te r' x' t k) : r = r' ∧ x = x' := by
  rcases h with ⟨a, b, c⟩ | ⟨a, b, c⟩ <;> rcases h' with ⟨a', b', c'⟩ | ⟨a', b', c'⟩
  · exact ⟨c.trans c'.symm, b.trans b'.symm⟩
  · exact absurd a a'
  · exact absurd a' a
  · exact ⟨c.trans c'.symm, b.trans b'.symm⟩
theorem z_tzE {x x' : Int32} (h : z_tz x) (h' : z_tz x') : x = x' := Eq.trans h (Eq.symm h')
theorem z_tbE {x x' t k : Int32} (h : z_tb x t k) (h' : z_tb x' t k) : x = x' := by
  rcases h with ⟨a, b⟩ | ⟨a, b⟩ <;> rcases h' with ⟨a', b'⟩ | ⟨a', b'⟩
  · exact b.trans b'.symm
  · exact absurd a a'
  · exact absurd a' a
  · exact b.trans b'.symm
