/-! the tape's length, behind the calls that change it -/
def z_ad1 (t x : Int32) : Prop := t.toInt < 940 → x.toInt = t.toInt + 1
def z_ad4 (t x : Int32) : Prop := t.toInt ≤ 936 → x.toInt = t.toInt + 4
def z_a4 (t x : Int32) : Prop := x.toInt = t.toInt + 4
def z_tf (r x t : Int32) : Prop := (t.toInt ≤ 920 ∧ x.toInt = t.toInt + 20 ∧ r = x) ∨ (920 < t.toInt ∧ x = t ∧ r = -1)
def z_te (r x t k : Int32) : Prop := ((0 ≤ k.toInt ∧ k.toInt ≤ t.toInt) ∧ x = k ∧ r = 1) ∨ (¬ (0 ≤ k.toInt ∧ k.toInt ≤ t.toInt) ∧ x = t ∧ r = 0)
def z_tz (x : Int32) : Prop := x = 0
def z_tb (x t k : Int32) : Prop := (z_in 0 1 k ∧ x = 0) ∨ (¬ z_in 0 1 k ∧ x = t)
theorem z_ad1n {t : Int32} (h : z_in 940 940 t) : z_ad1 t t := fun q => absurd (Int.lt_of_le_of_lt h.1 q) (by decide)
theorem z_ad4c {t a b c x : Int32} (h1 : z_ad1 t a) (h2 : z_ad1 a b) (h3 : z_ad1 b c) (h4 : z_ad1 c x) : z_ad4 t x := by
  intro h
  have q1 := h1 (by omega)
  have q2 := h2 (by omega)
  have q3 := h3 (by omega)
  have q4 := h4 (by omega)
  omega
theorem z_tfc {y t a b c d x : Int32} (hy : y.toInt = t.toInt + 20) (h : y.toInt ≤ 940) (h1 : z_ad4 t a) (h2 : z_ad4 a b) (h3 : z_ad4 b c) (h4 : z_ad4 c d) (h5 : z_ad4 d x) : z_tf x x t := by
  have q1 := h1 (by omega)
  have q2 := h2 (by omega)
  have q3 := h3 (by omega)
  have q4 := h4 (by omega)
  have q5 := h5 (by omega)
  exact Or.inl ⟨by omega, by omega, rfl⟩
theorem z_tfm {y t a b c d x : Int32} (hy : y.toInt = t.toInt + 20) (h : y.toInt ≤ 940) (h1 : z_a4 t a) (h2 : z_a4 a b) (h3 : z_a4 b c) (h4 : z_a4 c d) (h5 : z_a4 d x) : z_tf x x t := by
  unfold z_a4 at h1 h2 h3 h4 h5
  exact Or.inl ⟨by omega, by omega, rfl⟩
theorem z_tfn {y t : Int32} (hy : y.toInt = t.toInt + 20) (h : 941 ≤ y.toInt) : z_tf (-1) t t := Or.inr ⟨by omega, rfl, rfl⟩
theorem z_teT {t k : Int32} (h0 : 0 ≤ k.toInt) (h : k ≤ t) : z_te 1 k t k := Or.inl ⟨⟨h0, Int32.le_iff_toInt_le.mp h⟩, rfl, rfl⟩
theorem z_teN {t k : Int32} (h : k.toInt ≤ -1) : z_te 0 t t k := Or.inr ⟨fun q => by have := q.1; omega, rfl, rfl⟩
theorem z_teG {t k : Int32} (h : t < k) : z_te 0 t t k := Or.inr ⟨fun q => by have := q.2; have := Int32.lt_iff_toInt_lt.mp h; omega, rfl, rfl⟩
theorem z_tbI {x t k : Int32} (h : z_in 0 1 k) (hx : z_tz x) : z_tb x t k := Or.inl ⟨h, hx⟩
theorem z_tbN {t k : Int32} (h0 : ¬ k = 0) (h1 : ¬ k = 1) : z_tb t t k := by
  refine Or.inr ⟨fun q => ?_, rfl⟩
  have q1 := q.1
  have q2 := q.2
  have e : k.toInt = 0 ∨ k.toInt = 1 := by omega
  rcases e with e | e
  · exact h0 (Int32.toInt_inj.mp (e.trans (by decide)))
  · exact h1 (Int32.toInt_inj.mp (e.trans (by decide)))
theorem z_tbL {t k : Int32} (h : k.toInt ≤ -1) : z_tb t t k := Or.inr ⟨fun q => by have := q.1; omega, rfl⟩
theorem z_tbH {t k : Int32} (h : 2 ≤ k.toInt) : z_tb t t k := Or.inr ⟨fun q => by have := q.2; omega, rfl⟩
theorem z_tfE {r x r' x' t : Int32} (h : z_tf r x t) (h' : z_tf r' x' t) : r = r' ∧ x = x' := by
  rcases h with ⟨a, b, c⟩ | ⟨a, b, c⟩ <;> rcases h' with ⟨a', b', c'⟩ | ⟨a', b', c'⟩
  · have e : x = x' := Int32.toInt_inj.mp (by omega)
    exact ⟨c.trans (e.trans c'.symm), e⟩
  · omega
  · omega
  · exact ⟨c.trans c'.symm, b.trans b'.symm⟩
theorem z_teE {r x r' x' t k : Int32} (h : z_te r x t k) (h' : z_te r' x' t k) : r = r' ∧ x = x' := by
  rcases h with ⟨a, b, c⟩ | ⟨a, b, c⟩ <;> rcases h' with ⟨a', b', c'⟩ | ⟨a', b', c'⟩
  · exact ⟨c.trans c'.symm, b.trans b'.symm⟩
  · exact absurd a a'
  · exact absurd a' a
  · exact ⟨c.trans c'.symm, b.trans b'.symm⟩
theorem z_tzE {x x' : Int32} (h : z_tz x) (h' : z_tz x') : x = x' := Eq.trans h (Eq.symm h')
theorem z_tbE {x x' t k : Int32} (h : z_tb x t k) (h' : z_tb x' t k) : x = x' := by
  rcases h with ⟨a, b⟩ | ⟨a, b⟩ <;> rcases h' with ⟨a', b'⟩ | ⟨a', b'⟩
  · exact b.trans b'.symm
  · exact absurd a a'
  · exact absurd a' a
  · exact b.trans b'.symm
/-! the tape's bytes, and what far() says of them (p23) -/
def z_u1 (f : Nat → Int32) (k : Nat) (v : Int32) : Nat → Int32 := upd f k v.toInt8.toInt32
def z_sh (v k : Int32) : Int32 := (v.toUInt32 >>> (k.toUInt32 &&& Int32.toUInt32 31)).toInt32
def z_u4 (f : Nat → Int32) (k : Nat) (v : Int32) : Nat → Int32 := z_u1 (z_u1 (z_u1 (z_u1 f k (z_sh v 24)) (k + 1) (z_sh v 16)) (k + 2) (z_sh v 8)) (k + 3) v
def z_u20 (f : Nat → Int32) (k : Nat) (a b c d e : Int32) : Nat → Int32 := z_u4 (z_u4 (z_u4 (z_u4 (z_u4 f k a) (k + 4) b) (k + 8) c) (k + 12) d) (k + 16) e
def z_ab (g f : Nat → Int32) (t v : Int32) : Prop := t.toInt < 940 → g = z_u1 f t.toInt.toNat v
def z_bn4 (g f : Nat → Int32) (t v : Int32) : Prop := 0 ≤ t.toInt → t.toInt ≤ 936 → g = z_u4 f t.toInt.toNat v
def z_ff (g f : Nat → Int32) (t a b c d e : Int32) : Prop := (t.toInt ≤ 920 → g = z_u20 f t.toInt.toNat a b c d e) ∧ (920 < t.toInt → g = f)
theorem z_abI {g f : Nat → Int32} {t v y : Int32} (e : upd f t.toNatClampNeg (vp_nar .byte y) = g) (ey : y = v.toInt8.toInt32) : g = z_u1 f t.toInt.toNat v := by
  subst ey
  have q : t.toNatClampNeg = t.toInt.toNat := rfl
  rw [q, pk_vb] at e
  exact e.symm
theorem z_abn {f : Nat → Int32} {t v : Int32} (h : z_in 940 940 t) : z_ab f f t v := fun q => absurd (Int.lt_of_le_of_lt h.1 q) (by decide)
theorem z_bn4I {f0 f1 f2 f3 f4 : Nat → Int32} {t0 t1 t2 t3 v a b c : Int32} (l1 : z_ad1 t0 t1) (l2 : z_ad1 t1 t2) (l3 : z_ad1 t2 t3) (h1 : z_ab f1 f0 t0 a) (h2 : z_ab f2 f1 t1 b) (h3 : z_ab f3 f2 t2 c) (h4 : z_ab f4 f3 t3 v) (ea : a = z_sh v 24) (eb : b = z_sh v 16) (ec : c = z_sh v 8) : z_bn4 f4 f0 t0 v := by
  intro h0 h9
  have q1 := l1 (by omega)
  have q2 := l2 (by omega)
  have q3 := l3 (by omega)
  have p1 := h1 (by omega)
  have p2 := h2 (by omega)
  have p3 := h3 (by omega)
  have p4 := h4 (by omega)
  have k1 : t1.toInt.toNat = t0.toInt.toNat + 1 := by omega
  have k2 : t2.toInt.toNat = t0.toInt.toNat + 2 := by omega
  have k3 : t3.toInt.toNat = t0.toInt.toNat + 3 := by omega
  rw [k1, eb] at p2
  rw [k2, ec] at p3
  rw [k3] at p4
  rw [ea] at p1
  rw [p1] at p2
  rw [p2] at p3
  rw [p3] at p4
  exact p4
theorem z_shB (v : Int32) (n : Nat) (hn : n + 8 ≤ 32) (a b : Int32) (ha : a.toBitVec = v.toBitVec.sshiftRight n) (hb : b.toBitVec = v.toBitVec >>> n) : a.toInt8 = b.toInt8 := by
  apply Int8.toBitVec_inj.mp
  rw [Int32.toBitVec_toInt8, Int32.toBitVec_toInt8, ha, hb]
  apply BitVec.eq_of_getLsbD_eq
  intro i hi
  rw [BitVec.getLsbD_signExtend, BitVec.getLsbD_signExtend, BitVec.getLsbD_sshiftRight, BitVec.getLsbD_ushiftRight]
  have h1 : i < 32 := by omega
  have h2 : ¬ 32 ≤ i := by omega
  have h3 : n + i < 32 := by omega
  simp [h1, h2, h3]
theorem z_sh24 (v : Int32) : (v >>> ((24 : Int32) &&& 31)).toInt8 = (z_sh v 24).toInt8 := z_shB v 24 (by decide) _ _ rfl rfl
theorem z_sh16 (v : Int32) : (v >>> ((16 : Int32) &&& 31)).toInt8 = (z_sh v 16).toInt8 := z_shB v 16 (by decide) _ _ rfl rfl
theorem z_sh8 (v : Int32) : (v >>> ((8 : Int32) &&& 31)).toInt8 = (z_sh v 8).toInt8 := z_shB v 8 (by decide) _ _ rfl rfl
theorem z_sh0 (v : Int32) : (v >>> ((0 : Int32) &&& 31)).toInt8 = v.toInt8 := by
  have e : (v >>> ((0 : Int32) &&& 31)).toBitVec = v.toBitVec := by
    show v.toBitVec.sshiftRight 0 = v.toBitVec
    simp
  exact congrArg Int32.toInt8 (Int32.toBitVec_inj.mp e)
theorem z_mbI {g f : Nat → Int32} {t v y x : Int32} (e : upd f t.toNatClampNeg (vp_nar .byte y) = g) (ey : y = x.toInt8.toInt32) (ex : x.toInt8 = v.toInt8) : g = z_u1 f t.toInt.toNat v := by
  have h := z_abI (v := x) e ey
  rw [h]
  unfold z_u1
  rw [ex]
theorem z_m4I {f0 f1 f2 f3 f4 : Nat → Int32} {t0 t1 t2 t3 v a1 a2 a3 a4 b1 b2 b3 b4 : Int32} (e1 : upd f0 t0.toNatClampNeg (vp_nar .byte a1) = f1) (e2 : upd f1 t1.toNatClampNeg (vp_nar .byte a2) = f2) (e3 : upd f2 t2.toNatClampNeg (vp_nar .byte a3) = f3) (e4 : upd f3 t3.toNatClampNeg (vp_nar .byte a4) = f4)
    (c1 : a1 = b1.toInt8.toInt32) (c2 : a2 = b2.toInt8.toInt32) (c3 : a3 = b3.toInt8.toInt32) (c4 : a4 = b4.toInt8.toInt32) (d1 : b1 = v >>> ((24 : Int32) &&& 31)) (d2 : b2 = v >>> ((16 : Int32) &&& 31)) (d3 : b3 = v >>> ((8 : Int32) &&& 31)) (d4 : b4 = v >>> ((0 : Int32) &&& 31))
    (q1 : t1.toInt = t0.toInt + 1) (q2 : t2.toInt = t1.toInt + 1) (q3 : t3.toInt = t2.toInt + 1) : z_bn4 f4 f0 t0 v := by
  intro h0 h9
  have p1 := z_mbI e1 c1 ((congrArg Int32.toInt8 d1).trans (z_sh24 v))
  have p2 := z_mbI e2 c2 ((congrArg Int32.toInt8 d2).trans (z_sh16 v))
  have p3 := z_mbI e3 c3 ((congrArg Int32.toInt8 d3).trans (z_sh8 v))
  have p4 := z_mbI e4 c4 ((congrArg Int32.toInt8 d4).trans (z_sh0 v))
  have k1 : t1.toInt.toNat = t0.toInt.toNat + 1 := by omega
  have k2 : t2.toInt.toNat = t0.toInt.toNat + 2 := by omega
  have k3 : t3.toInt.toNat = t0.toInt.toNat + 3 := by omega
  rw [k1] at p2
  rw [k2] at p3
  rw [k3] at p4
  rw [p1] at p2
  rw [p2] at p3
  rw [p3] at p4
  exact p4
theorem z_a4d {t x : Int32} (h : z_a4 t x) : z_ad4 t x := fun _ => h
theorem z_ffI {y t0 t1 t2 t3 t4 a b c d e : Int32} {f0 f1 f2 f3 f4 f5 : Nat → Int32} (h0 : 0 ≤ t0.toInt) (hy : y.toInt = t0.toInt + 20) (h : y.toInt ≤ 940) (l1 : z_ad4 t0 t1) (l2 : z_ad4 t1 t2) (l3 : z_ad4 t2 t3) (l4 : z_ad4 t3 t4) (h1 : z_bn4 f1 f0 t0 a) (h2 : z_bn4 f2 f1 t1 b) (h3 : z_bn4 f3 f2 t2 c) (h4 : z_bn4 f4 f3 t3 d) (h5 : z_bn4 f5 f4 t4 e) : z_ff f5 f0 t0 a b c d e := by
  refine ⟨fun h9 => ?_, fun h9 => absurd h9 (by omega)⟩
  have q1 := l1 (by omega)
  have q2 := l2 (by omega)
  have q3 := l3 (by omega)
  have q4 := l4 (by omega)
  have p1 := h1 (by omega) (by omega)
  have p2 := h2 (by omega) (by omega)
  have p3 := h3 (by omega) (by omega)
  have p4 := h4 (by omega) (by omega)
  have p5 := h5 (by omega) (by omega)
  have k1 : t1.toInt.toNat = t0.toInt.toNat + 4 := by omega
  have k2 : t2.toInt.toNat = t0.toInt.toNat + 8 := by omega
  have k3 : t3.toInt.toNat = t0.toInt.toNat + 12 := by omega
  have k4 : t4.toInt.toNat = t0.toInt.toNat + 16 := by omega
  rw [k1, p1] at p2
  rw [k2, p2] at p3
  rw [k3, p3] at p4
  rw [k4, p4] at p5
  exact p5
theorem z_ffn {y t a b c d e : Int32} {f : Nat → Int32} (hy : y.toInt = t.toInt + 20) (h : 941 ≤ y.toInt) : z_ff f f t a b c d e := ⟨fun h9 => absurd h9 (by omega), fun _ => rfl⟩
theorem z_ffE {g g' f : Nat → Int32} {t a b c d e : Int32} (h : z_ff g f t a b c d e) (h' : z_ff g' f t a b c d e) : g = g' := by
  rcases Int.lt_or_le 920 t.toInt with q | q
  · exact (h.2 q).trans (h'.2 q).symm
  · exact (h.1 q).trans (h'.1 q).symm
/-! far -/
def z_o (f : Nat → Int32) (k : Nat) : Int32 := f k &&& 255
def z_gt (r : Int32) (f : Nat → Int32) (t i : Int32) : Prop := 0 ≤ i.toInt → i.toInt < t.toInt → r = z_o f i.toInt.toNat
def z_oc (r : Int32) (f : Nat → Int32) (i : Int32) : Prop := r = z_o f i.toInt.toNat
theorem z_ocI {r x i : Int32} {f : Nat → Int32} (ex : x = f i.toNatClampNeg) (er : r = x &&& 255) : z_oc r f i := by
  have q : i.toNatClampNeg = i.toInt.toNat := rfl
  rw [q] at ex
  rw [ex] at er
  exact er
theorem z_gtI {r x i t : Int32} {f : Nat → Int32} (ex : x = f i.toNatClampNeg) (er : r = x &&& 255) : z_gt r f t i := fun _ _ => z_ocI ex er
theorem z_gtN {r i t : Int32} {f : Nat → Int32} (h : i.toInt ≤ -1) : z_gt r f t i := fun q _ => absurd q (by omega)
theorem z_gtL {r i t : Int32} {f : Nat → Int32} (h : t ≤ i) : z_gt r f t i := fun _ q => absurd (Int32.le_iff_toInt_le.mp h) (by omega)
theorem z_l2 {i y t : Int32} (e : y.toInt = i.toInt + 2) (h : y < t) : i.toInt + 2 < t.toInt := by
  have q := Int32.lt_iff_toInt_lt.mp h
  omega
theorem z_g0 {a i t : Int32} {f : Nat → Int32} (h : z_gt a f t i) (h0 : 0 ≤ i.toInt) (hl : i.toInt + 2 < t.toInt) : a = z_o f i.toInt.toNat := h h0 (by omega)
theorem z_g1 {a i x t : Int32} {f : Nat → Int32} (h : z_gt a f t x) (e : x.toInt = i.toInt + 1) (h0 : 0 ≤ i.toInt) (hl : i.toInt + 2 < t.toInt) : a = z_o f x.toInt.toNat := h (by omega) (by omega)
theorem z_g2 {a i x t : Int32} {f : Nat → Int32} (h : z_gt a f t x) (e : x.toInt = i.toInt + 2) (h0 : 0 ≤ i.toInt) (hl : i.toInt + 2 < t.toInt) : a = z_o f x.toInt.toNat := h (by omega) (by omega)
def z_tr (f : Nat → Int32) (j : Nat) (q : Int32) : Prop := (z_o f (3 * j + 1) ≤ z_o f (3 * j) * q) ↔ z_o f (3 * j + 2) = 1
def z_a3 (f : Nat → Int32) (t q : Int32) : Prop := ∀ j : Nat, 3 * (j : Int) + 2 < t.toInt → z_tr f j q
def z_fi (f : Nat → Int32) (i q : Int32) : Prop := ∃ k : Nat, i.toInt = 3 * (k : Int) ∧ ∀ j : Nat, j < k → z_tr f j q
def z_fx (r : Int32) (f : Nat → Int32) (t q : Int32) : Prop := (r = 1 ∧ z_a3 f t q) ∨ (r = 0 ∧ ¬ z_a3 f t q)
theorem z_fi0 {f : Nat → Int32} {q : Int32} : z_fi f 0 q := ⟨0, by decide, fun j h => absurd h (Nat.not_lt_zero j)⟩
theorem z_trk {f : Nat → Int32} {i i1 i2 q a b c : Int32} {k : Nat} (e : i.toInt = 3 * (k : Int)) (ha : a = z_o f i.toInt.toNat) (hb : b = z_o f i1.toInt.toNat) (t1 : i1.toInt = i.toInt + 1) (hc : c = z_o f i2.toInt.toNat) (t2 : i2.toInt = i.toInt + 2) : z_tr f k q ↔ ((b ≤ a * q) ↔ c = 1) := by
  have e0 : i.toInt.toNat = 3 * k := by omega
  have e1 : i1.toInt.toNat = 3 * k + 1 := by omega
  have e2 : i2.toInt.toNat = 3 * k + 2 := by omega
  rw [e0] at ha
  rw [e1] at hb
  rw [e2] at hc
  rw [ha, hb, hc]
  exact Iff.rfl
theorem z_fiS {f : Nat → Int32} {i i1 i2 i3 q a b c : Int32} (hI : z_fi f i q) (ha : a = z_o f i.toInt.toNat) (hb : b = z_o f i1.toInt.toNat) (t1 : i1.toInt = i.toInt + 1) (hc : c = z_o f i2.toInt.toNat) (t2 : i2.toInt = i.toInt + 2) (t3 : i3.toInt = i.toInt + 3) (h : (b ≤ a * q) ↔ c = 1) : z_fi f i3 q := by
  obtain ⟨k, e, hk⟩ := hI
  refine ⟨k + 1, by omega, fun j hj => ?_⟩
  rcases Nat.lt_or_ge j k with h1 | h1
  · exact hk j h1
  · have h2 : j = k := by omega
    rw [h2]
    exact (z_trk e ha hb t1 hc t2).mpr h
theorem z_fxT {f : Nat → Int32} {i y t q : Int32} (hI : z_fi f i q) (t2 : y.toInt = i.toInt + 2) (hge : t ≤ y) : z_fx 1 f t q := by
  obtain ⟨k, e, hk⟩ := hI
  have g := Int32.le_iff_toInt_le.mp hge
  exact Or.inl ⟨rfl, fun j hj => hk j (by omega)⟩
theorem z_fxF {f : Nat → Int32} {i i1 i2 t q a b c : Int32} (hI : z_fi f i q) (ha : a = z_o f i.toInt.toNat) (hb : b = z_o f i1.toInt.toNat) (t1 : i1.toInt = i.toInt + 1) (hc : c = z_o f i2.toInt.toNat) (t2 : i2.toInt = i.toInt + 2) (hl : i.toInt + 2 < t.toInt) (h : ¬ ((b ≤ a * q) ↔ c = 1)) : z_fx 0 f t q := by
  obtain ⟨k, e, hk⟩ := hI
  exact Or.inr ⟨rfl, fun q9 => h ((z_trk e ha hb t1 hc t2).mp (q9 k (by omega)))⟩
theorem z_c1 {a b c m q : Int32} (em : m = a * q) (hle : b ≤ m) (hc : c = 1) : (b ≤ a * q) ↔ c = 1 := ⟨fun _ => hc, fun _ => by rw [← em]; exact hle⟩
theorem z_c2 {a b c m q : Int32} (em : m = a * q) (hlt : m < b) (hc : ¬ c = 1) : (b ≤ a * q) ↔ c = 1 := ⟨fun q9 => absurd q9 (by rw [← em]; exact Int32.not_le.mpr hlt), fun q9 => absurd q9 hc⟩
theorem z_c3 {a b c m q : Int32} (em : m = a * q) (hle : b ≤ m) (hc : ¬ c = 1) : ¬ ((b ≤ a * q) ↔ c = 1) := fun q9 => hc (q9.mp (by rw [← em]; exact hle))
theorem z_c4 {a b c m q : Int32} (em : m = a * q) (hlt : m < b) (hc : c = 1) : ¬ ((b ≤ a * q) ↔ c = 1) := fun q9 => absurd (q9.mpr hc) (by rw [← em]; exact Int32.not_le.mpr hlt)
def z_fw (p : Int32) (f : Nat → Int32) (t i q : Int32) : Prop := ∃ k : Nat, i.toInt = 3 * (k : Int) ∧ i.toInt ≤ t.toInt ∧ t.toInt % 3 = 0 ∧ ((p = 1 ∧ ∀ j : Nat, j < k → z_tr f j q) ∨ (p = 0 ∧ ¬ ∀ j : Nat, j < k → z_tr f j q))
theorem z_fw0 {f : Nat → Int32} {t q : Int32} (h0 : 0 ≤ t.toInt) (hm : t.toInt % 3 = 0) : z_fw 1 f t 0 q := ⟨0, by decide, h0, hm, Or.inl ⟨rfl, fun j h => absurd h (Nat.not_lt_zero j)⟩⟩
theorem z_fwN {f : Nat → Int32} {p t i i3 q : Int32} (hI : z_fw p f t i q) (hp : p = 0) (hl : i < t) (t3 : i3.toInt = i.toInt + 3) : z_fw 0 f t i3 q := by
  obtain ⟨k, e, h1, h2, h⟩ := hI
  have g := Int32.lt_iff_toInt_lt.mp hl
  refine ⟨k + 1, by omega, by omega, h2, Or.inr ⟨rfl, fun q9 => ?_⟩⟩
  rcases h with ⟨h3, -⟩ | ⟨-, h4⟩
  · rw [hp] at h3
    exact absurd h3 (by decide)
  · exact h4 (fun j hj => q9 j (by omega))
theorem z_fwS {f : Nat → Int32} {p t i i1 i2 i3 q a b c : Int32} (hI : z_fw p f t i q) (hp : p = 1) (hl : i < t) (ha : a = z_o f i.toInt.toNat) (hb : b = z_o f i1.toInt.toNat) (t1 : i1.toInt = i.toInt + 1) (hc : c = z_o f i2.toInt.toNat) (t2 : i2.toInt = i.toInt + 2) (t3 : i3.toInt = i.toInt + 3) (h : (b ≤ a * q) ↔ c = 1) : z_fw 1 f t i3 q := by
  obtain ⟨k, e, h1, h2, h9⟩ := hI
  have g := Int32.lt_iff_toInt_lt.mp hl
  rcases h9 with ⟨-, h4⟩ | ⟨h3, -⟩
  · refine ⟨k + 1, by omega, by omega, h2, Or.inl ⟨rfl, fun j hj => ?_⟩⟩
    rcases Nat.lt_or_ge j k with h5 | h5
    · exact h4 j h5
    · have h6 : j = k := by omega
      rw [h6]
      exact (z_trk e ha hb t1 hc t2).mpr h
  · rw [hp] at h3
    exact absurd h3 (by decide)
theorem z_fwF {f : Nat → Int32} {p t i i1 i2 i3 q a b c : Int32} (hI : z_fw p f t i q) (hl : i < t) (ha : a = z_o f i.toInt.toNat) (hb : b = z_o f i1.toInt.toNat) (t1 : i1.toInt = i.toInt + 1) (hc : c = z_o f i2.toInt.toNat) (t2 : i2.toInt = i.toInt + 2) (t3 : i3.toInt = i.toInt + 3) (h : ¬ ((b ≤ a * q) ↔ c = 1)) : z_fw 0 f t i3 q := by
  obtain ⟨k, e, h1, h2, h9⟩ := hI
  have g := Int32.lt_iff_toInt_lt.mp hl
  exact ⟨k + 1, by omega, by omega, h2, Or.inr ⟨rfl, fun q9 => h ((z_trk e ha hb t1 hc t2).mp (q9 k (by omega)))⟩⟩
theorem z_fwE {f : Nat → Int32} {p t i q : Int32} (hI : z_fw p f t i q) (hge : t ≤ i) : z_fx p f t q := by
  obtain ⟨k, e, h1, h2, h9⟩ := hI
  have g := Int32.le_iff_toInt_le.mp hge
  rcases h9 with ⟨h3, h4⟩ | ⟨h3, h4⟩
  · exact Or.inl ⟨h3, fun j hj => h4 j (by omega)⟩
  · exact Or.inr ⟨h3, fun q9 => h4 (fun j hj => q9 j (by omega))⟩
def z_tq3 (f : Nat → Int32) (j : Nat) : Prop := (z_o f (3 * j)).toInt < 12 ∧ 1 ≤ (z_o f (3 * j + 1)).toInt ∧ (z_o f (3 * j + 1)).toInt < 200 ∧ (z_o f (3 * j + 2)).toInt ≤ 1
def z_tt (f : Nat → Int32) (t : Int32) : Prop := 3 ≤ t.toInt ∧ t.toInt ≤ 18 ∧ t.toInt % 3 = 0 ∧ ∀ j : Nat, 3 * (j : Int) + 2 < t.toInt → z_tq3 f j
def z_tj (f : Nat → Int32) (i : Int32) : Prop := ∃ k : Nat, i.toInt = 3 * (k : Int) ∧ ∀ j : Nat, j < k → z_tq3 f j
theorem z_tj0 {f : Nat → Int32} : z_tj f 0 := ⟨0, by decide, fun j h => absurd h (Nat.not_lt_zero j)⟩
theorem z_tjS {f : Nat → Int32} {i i1 i2 i3 a b c : Int32} (hI : z_tj f i) (ha : a = z_o f i.toInt.toNat) (hb : b = z_o f i1.toInt.toNat) (t1 : i1.toInt = i.toInt + 1) (hc : c = z_o f i2.toInt.toNat) (t2 : i2.toInt = i.toInt + 2) (t3 : i3.toInt = i.toInt + 3) (h1 : a.toInt ≤ 11) (h2 : 1 ≤ b.toInt ∧ b.toInt ≤ 199) (h4 : c.toInt ≤ 1) : z_tj f i3 := by
  obtain ⟨k, e, hk⟩ := hI
  have e0 : i.toInt.toNat = 3 * k := by omega
  have e1 : i1.toInt.toNat = 3 * k + 1 := by omega
  have e2 : i2.toInt.toNat = 3 * k + 2 := by omega
  rw [e0] at ha
  rw [e1] at hb
  rw [e2] at hc
  refine ⟨k + 1, by omega, fun j hj => ?_⟩
  rcases Nat.lt_or_ge j k with h5 | h5
  · exact hk j h5
  · have h6 : j = k := by omega
    rw [h6]
    unfold z_tq3
    rw [← ha, ← hb, ← hc]
    exact ⟨by omega, h2.1, by omega, h4⟩
theorem z_tjA {f : Nat → Int32} {i t a : Int32} (hI : z_tj f i) (hl : i.toInt + 2 < t.toInt) (ha : a = z_o f i.toInt.toNat) (h : 12 ≤ a.toInt) : ¬ z_tt f t := by
  obtain ⟨k, e, hk⟩ := hI
  have e0 : i.toInt.toNat = 3 * k := by omega
  rw [e0] at ha
  intro q9
  have q := (q9.2.2.2 k (by omega)).1
  rw [← ha] at q
  omega
theorem z_tjB {f : Nat → Int32} {i i1 t b : Int32} (hI : z_tj f i) (hl : i.toInt + 2 < t.toInt) (hb : b = z_o f i1.toInt.toNat) (t1 : i1.toInt = i.toInt + 1) (h : ¬ (1 ≤ b.toInt ∧ b.toInt ≤ 199)) : ¬ z_tt f t := by
  obtain ⟨k, e, hk⟩ := hI
  have e1 : i1.toInt.toNat = 3 * k + 1 := by omega
  rw [e1] at hb
  intro q9
  have q := (q9.2.2.2 k (by omega)).2
  rw [← hb] at q
  exact h ⟨q.1, by have := q.2.1; omega⟩
theorem z_tjC {f : Nat → Int32} {i i2 t c : Int32} (hI : z_tj f i) (hl : i.toInt + 2 < t.toInt) (hc : c = z_o f i2.toInt.toNat) (t2 : i2.toInt = i.toInt + 2) (h : 2 ≤ c.toInt) : ¬ z_tt f t := by
  obtain ⟨k, e, hk⟩ := hI
  have e2 : i2.toInt.toNat = 3 * k + 2 := by omega
  rw [e2] at hc
  intro q9
  have q := (q9.2.2.2 k (by omega)).2.2.2
  rw [← hc] at q
  omega
theorem z_tjT {f : Nat → Int32} {i t : Int32} (hI : z_tj f i) (hge : t.toInt ≤ i.toInt) (h3 : 3 ≤ t.toInt) (h18 : t.toInt ≤ 18) (hm : t.toInt % 3 = 0) : z_tt f t := by
  obtain ⟨k, e, hk⟩ := hI
  exact ⟨h3, h18, hm, fun j hj => hk j (by omega)⟩
theorem z_tjL {f : Nat → Int32} {i t : Int32} (hI : z_tj f i) (hl : i.toInt < t.toInt) (hm : t.toInt % 3 = 0) : i.toInt + 2 < t.toInt := by
  obtain ⟨k, e, hk⟩ := hI
  omega
def z_ta (r : Int32) (f : Nat → Int32) (t : Int32) : Prop := (r = 1 ∧ z_tt f t) ∨ (r = 0 ∧ ¬ z_tt f t)
theorem z_d3 {t : Int32} (h : 0 ≤ t.toInt) : (t / 3).toInt = t.toInt / 3 := by
  have t3 := Int32.toInt_div_of_ne_right t 3 (by decide)
  rw [Int.tdiv_eq_ediv_of_nonneg h] at t3
  exact t3
theorem z_m3 {y : Int32} (h : z_in 0 715827882 y) : (y * 3).toInt = y.toInt * 3 := by
  have e3 : (3 : Int32).toInt = 3 := rfl
  have h1 := h.1
  have h2 := h.2
  rw [Int32.toInt_mul, e3]
  exact Int.bmod_eq_of_le_mul_two (by omega) (by omega)
theorem z_m3' {y : Int32} (h : z_in 0 715827882 y) : (3 * y).toInt = 3 * y.toInt := by
  have e3 : (3 : Int32).toInt = 3 := rfl
  have h1 := h.1
  have h2 := h.2
  rw [Int32.toInt_mul, e3]
  exact Int.bmod_eq_of_le_mul_two (by omega) (by omega)
theorem z_r3 {t : Int32} (h : 0 ≤ t.toInt) : (t - t / 3 * 3).toInt = t.toInt % 3 := by
  have d := z_d3 h
  have l := t.toInt_lt
  have m := z_m3 (y := t / 3) ⟨by omega, by omega⟩
  rw [Int32.toInt_sub, m, d]
  have e : t.toInt - t.toInt / 3 * 3 = t.toInt % 3 := by omega
  rw [e]
  exact Int.bmod_eq_of_le_mul_two (by omega) (by omega)
theorem z_rm0 {t y : Int32} (h : 0 ≤ t.toInt) (e : y = t - t / 3 * 3) (hy : z_in 0 0 y) : t.toInt % 3 = 0 := by
  have q := z_r3 h
  rw [← e] at q
  have := hy.1
  have := hy.2
  omega
theorem z_rm1 {f : Nat → Int32} {t y : Int32} (h : 0 ≤ t.toInt) (e : y = t - t / 3 * 3) (hy : 1 ≤ y.toInt) : ¬ z_tt f t := by
  have q := z_r3 h
  rw [← e] at q
  intro q9
  have := q9.2.2.1
  omega
theorem z_dv0 {f : Nat → Int32} {t y : Int32} (h : 0 ≤ t.toInt) (e : y = t / 3) (hy : y.toInt ≤ 0) : ¬ z_tt f t := by
  have q := z_d3 h
  rw [← e] at q
  intro q9
  have := q9.1
  omega
theorem z_dv7 {f : Nat → Int32} {t y : Int32} (h : 0 ≤ t.toInt) (e : y = t / 3) (hy : 7 ≤ y.toInt) : ¬ z_tt f t := by
  have q := z_d3 h
  rw [← e] at q
  intro q9
  have := q9.2.1
  omega
/-- the length, by its third part -/
theorem z_dvE {t y m : Int32} (h : 0 ≤ t.toInt) (e : y = t / 3) (hy : z_in 1 6 y) (hm : t.toInt % 3 = 0) (em : m = 3 * y) : m.toInt = t.toInt ∧ 3 ≤ t.toInt ∧ t.toInt ≤ 18 := by
  have q := z_d3 h
  rw [← e] at q
  have h1 := hy.1
  have h2 := hy.2
  have q3 := z_m3' (y := y) ⟨by omega, by omega⟩
  rw [← em] at q3
  exact ⟨by omega, by omega, by omega⟩
theorem z_dvL {i t y m : Int32} (h : 0 ≤ t.toInt) (e : y = t / 3) (hy : z_in 1 6 y) (hm : t.toInt % 3 = 0) (em : m = 3 * y) (hl : i < m) : i.toInt < t.toInt := by
  have q := (z_dvE h e hy hm em).1
  have g := Int32.lt_iff_toInt_lt.mp hl
  omega
theorem z_taT {f : Nat → Int32} {i t y m : Int32} (hI : z_tj f i) (h : 0 ≤ t.toInt) (e : y = t / 3) (hy : z_in 1 6 y) (hm : t.toInt % 3 = 0) (em : m = 3 * y) (hge : m ≤ i) : z_ta 1 f t := by
  obtain ⟨q, q3, q18⟩ := z_dvE h e hy hm em
  have g := Int32.le_iff_toInt_le.mp hge
  exact Or.inl ⟨rfl, z_tjT hI (by omega) q3 q18 hm⟩
theorem z_taF {f : Nat → Int32} {t : Int32} (h : ¬ z_tt f t) : z_ta 0 f t := Or.inr ⟨rfl, h⟩
def z_fold (f : Nat → Int32) (t : Int32) : Nat → Int32 → Prop
  | 0, s => s = 0
  | n + 1, s => ∃ s0 : Int32, z_fold f t n s0 ∧ ((z_a3 f t (Int32.ofNat (n + 1)) ∧ s = s0 ||| (1 <<< (Int32.ofNat (n + 1) &&& 31))) ∨ (¬ z_a3 f t (Int32.ofNat (n + 1)) ∧ s = s0))
theorem z_foldE {f : Nat → Int32} {t : Int32} : ∀ (n : Nat) {s s' : Int32}, z_fold f t n s → z_fold f t n s' → s = s'
  | 0, _, _, h, h' => Eq.trans h (Eq.symm h')
  | n + 1, _, _, h, h' => by
    obtain ⟨a, ha, h⟩ := h
    obtain ⟨b, hb, h'⟩ := h'
    have e := z_foldE n ha hb
    subst e
    rcases h with ⟨p, q⟩ | ⟨p, q⟩ <;> rcases h' with ⟨p', q'⟩ | ⟨p', q'⟩
    · exact q.trans q'.symm
    · exact absurd p p'
    · exact absurd p' p
    · exact q.trans q'.symm
def z_fb (s : Int32) (f : Nat → Int32) (t q : Int32) : Prop := ∃ n : Nat, q.toInt = (n : Int) + 1 ∧ n ≤ 5 ∧ z_fold f t n s
theorem z_fb0 {f : Nat → Int32} {t : Int32} : z_fb 0 f t 1 := ⟨0, by decide, by decide, rfl⟩
theorem z_fbq {q : Int32} {n : Nat} (e : q.toInt = (n : Int) + 1) (h : n ≤ 5) : q = Int32.ofNat (n + 1) := by
  apply Int32.toInt_inj.mp
  rw [Int32.toInt_ofNat_of_lt (by omega)]
  omega
theorem z_fbS {f : Nat → Int32} {s s' t q q' r x : Int32} (hI : z_fb s f t q) (h5 : q.toInt ≤ 5) (tq : q'.toInt = q.toInt + 1) (hx : z_fx r f t q) (hr : z_in 1 1 r) (ex : x = 1 <<< (q &&& 31)) (es : s' = s ||| x) : z_fb s' f t q' := by
  obtain ⟨n, e, hn, hf⟩ := hI
  have eq9 := z_fbq e hn
  refine ⟨n + 1, by omega, by omega, s, hf, Or.inl ⟨?_, ?_⟩⟩
  · rcases hx with ⟨-, h⟩ | ⟨h, -⟩
    · rw [← eq9]
      exact h
    · rw [h] at hr
      exact absurd hr.1 (by decide)
  · rw [es, ex, eq9]
theorem z_fbN {f : Nat → Int32} {s t q q' r : Int32} (hI : z_fb s f t q) (h5 : q.toInt ≤ 5) (tq : q'.toInt = q.toInt + 1) (hx : z_fx r f t q) (hr : z_in 0 0 r) : z_fb s f t q' := by
  obtain ⟨n, e, hn, hf⟩ := hI
  have eq9 := z_fbq e hn
  refine ⟨n + 1, by omega, by omega, s, hf, Or.inr ⟨?_, rfl⟩⟩
  rcases hx with ⟨h, -⟩ | ⟨-, h⟩
  · rw [h] at hr
    exact absurd hr.2 (by decide)
  · rw [← eq9]
    exact h
theorem z_fbZ {f : Nat → Int32} {s s' t q q' r : Int32} (hI : z_fb s f t q) (h5 : q.toInt ≤ 5) (tq : q'.toInt = q.toInt + 1) (hx : z_fx r f t q) (hr : z_in 0 0 r) (es : s' = s ||| 0) : z_fb s' f t q' := by
  have e : s' = s := es.trans (by simp)
  rw [e]
  exact z_fbN hI h5 tq hx hr
def z_fo (r : Int32) (f : Nat → Int32) (t : Int32) : Prop := z_fold f t 5 r
theorem z_fbE {f : Nat → Int32} {s t q : Int32} (hI : z_fb s f t q) (h : 6 ≤ q.toInt) : z_fo s f t := by
  obtain ⟨n, e, hn, hf⟩ := hI
  have e5 : n = 5 := by omega
  subst e5
  exact hf
def z_fr (r : Int32) (f : Nat → Int32) (t : Int32) : Prop := (z_tt f t ∧ z_fold f t 5 r) ∨ (¬ z_tt f t ∧ r = -1)
theorem z_frE {r r' t : Int32} {f : Nat → Int32} (h : z_fr r f t) (h' : z_fr r' f t) : r = r' := by
  rcases h with ⟨p, q⟩ | ⟨p, q⟩ <;> rcases h' with ⟨p', q'⟩ | ⟨p', q'⟩
  · exact z_foldE 5 q q'
  · exact absurd p p'
  · exact absurd p' p
  · exact q.trans q'.symm
theorem z_frF {f : Nat → Int32} {t : Int32} (h : ¬ z_tt f t) : z_fr (-1) f t := Or.inr ⟨h, rfl⟩
theorem z_frT {f : Nat → Int32} {r t : Int32} (h : z_tt f t) (ho : z_fo r f t) : z_fr r f t := Or.inl ⟨h, ho⟩
theorem z_frA {f : Nat → Int32} {p r t : Int32} (h : z_ta p f t) (hp : z_in 1 1 p) (ho : z_fo r f t) : z_fr r f t := by
  rcases h with ⟨-, h⟩ | ⟨h, -⟩
  · exact Or.inl ⟨h, ho⟩
  · rw [h] at hp
    exact absurd hp.1 (by decide)
theorem z_frB {f : Nat → Int32} {p t : Int32} (h : z_ta p f t) (hp : z_in 0 0 p) : z_fr (-1) f t := by
  rcases h with ⟨h, -⟩ | ⟨-, h⟩
  · rw [h] at hp
    exact absurd hp.2 (by decide)
  · exact Or.inr ⟨h, rfl⟩
def z_sz (a b : Int32) : Prop := a = b
theorem z_szR {f : Nat → Int32} {r x t : Int32} (e : z_sz x t) (h : z_fr r f x) : z_fr r f t := by
  have e : x = t := e
  rw [← e]
  exact h
def z_ii (r k : Int32) (a b : Int) : Prop := (r = 1 ∧ z_in a b k) ∨ (r = 0 ∧ ¬ z_in a b k)
theorem z_ii0 {r k : Int32} {a b : Int} (h : z_ii r k a b) (hr : z_in 0 0 r) : ¬ z_in a b k := by
  rcases h with ⟨h, -⟩ | ⟨-, h⟩
  · rw [h] at hr
    exact absurd hr.2 (by decide)
  · exact h
theorem z_iiS {f : Nat → Int32} {r t : Int32} (h : z_ii r t 3 18) (hr : z_in 0 0 r) : ¬ z_tt f t := fun q9 => z_ii0 h hr ⟨q9.1, q9.2.1⟩
theorem z_kne {a b : Int} {r k : Int32} (h : z_in a b r) (d : decide (k.toInt < a ∨ b < k.toInt) = true) : ¬ r = k := by
  intro e
  rw [e] at h
  have h1 := h.1
  have h2 := h.2
  have d := of_decide_eq_true d
  omega
