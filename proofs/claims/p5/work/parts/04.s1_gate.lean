theorem z_kno {a b : Int} {r k : Int32} (h : z_in a b r) (e : r = k) (d : decide (k.toInt < a ∨ b < k.toInt) = true) : False := by
  have d := of_decide_eq_true d
  have h1 := h.1
  have h2 := h.2
  rw [e] at h1 h2
  omega
def z_N (x : Int64) : Nat := x.toBitVec.toNat
theorem z_Ninj {x y : Int64} (h : z_N x = z_N y) : x = y := Int64.toBitVec_inj.mp (BitVec.eq_of_toNat_eq h)
theorem z_Nint {y : Int64} (h : 0 ≤ y.toInt) : (z_N y : Int) = y.toInt := by
  have e : y.toInt = y.toBitVec.toInt := rfl
  rw [e, BitVec.toInt_eq_toNat_cond] at h
  rw [e, BitVec.toInt_eq_toNat_cond]
  have l := y.toBitVec.isLt
  unfold z_N
  split at h <;> split <;> omega
theorem z_N32 {x : Int32} (h : 0 ≤ x.toInt) : z_N x.toInt64 = x.toInt.toNat := by
  have e : x.toInt64.toInt = x.toInt := Int32.toInt_toInt64 x
  have q := z_Nint (y := x.toInt64) (by omega)
  omega
theorem z_shor {k : Nat} {x y s : Int64} (hs : (s.toBitVec.smod 64).toNat = k) (hy : z_N y < 2 ^ k) (hx : z_N x * 2 ^ k < 2 ^ 64) : z_N (x <<< s ||| y) = z_N x * 2 ^ k + z_N y := by
  unfold z_N at *
  have e : (x <<< s ||| y).toBitVec = (x.toBitVec <<< (s.toBitVec.smod 64)) ||| y.toBitVec := rfl
  have e2 : (x.toBitVec <<< (s.toBitVec.smod 64)).toNat = x.toBitVec.toNat * 2 ^ k := by
    rw [BitVec.shiftLeft_eq', hs, BitVec.toNat_shiftLeft, Nat.shiftLeft_eq]
    exact Nat.mod_eq_of_lt hx
  rw [e, BitVec.toNat_or, e2, ← Nat.shiftLeft_eq, ← Nat.shiftLeft_add_eq_or_of_lt hy]
def z_isL (c : Int32) : Prop := 97 ≤ c.toInt ∧ c.toInt ≤ 122
def z_isD (c : Int32) : Prop := 48 ≤ c.toInt ∧ c.toInt ≤ 57
def z_isB (c : Int32) : Prop := c = 32 ∨ c = 10
def z_Ls (f : Nat → Int32) (a n : Nat) : Prop := ∀ j : Nat, j < n → z_isL (z_o f (a + j))
def z_Ds (f : Nat → Int32) (a n : Nat) : Prop := ∀ j : Nat, j < n → z_isD (z_o f (a + j))
def z_c1w (x : Int64) (c : Int32) : Int64 := x <<< ((5 : Int32).toInt64 &&& 63) ||| (c - 97 + 1).toInt64
def z_w1w (x : Int64) (c : Int32) : Int64 := x <<< ((8 : Int32).toInt64 &&& 63) ||| c.toInt64
def z_c5 (f : Nat → Int32) (a : Nat) : Nat → Int64
  | 0 => 0
  | n + 1 => z_c1w (z_c5 f a n) (z_o f (a + n))
def z_w8 (f : Nat → Int32) (a : Nat) : Nat → Int64
  | 0 => 0
  | n + 1 => z_w1w (z_w8 f a n) (z_o f (a + n))
def z_n10 (f : Nat → Int32) (a : Nat) : Nat → Int32
  | 0 => 0
  | n + 1 => z_n10 f a n * 10 + (z_o f (a + n) - 48)
def z_pk (B q : Nat) (f : Nat → Int32) (a : Nat) : Nat → Nat
  | 0 => 0
  | n + 1 => z_pk B q f a n * B + ((z_o f (a + n)).toInt.toNat - q)
theorem z_pklt {B q : Nat} (hB : 0 < B) {f : Nat → Int32} {a : Nat} : ∀ (n : Nat), (∀ j : Nat, j < n → (z_o f (a + j)).toInt.toNat - q < B) → z_pk B q f a n < B ^ n
  | 0, _ => by simp [z_pk]
  | n + 1, h => by
    have h1 := z_pklt hB n (fun j hj => h j (by omega))
    have h2 := h n (by omega)
    have h3 : (z_pk B q f a n + 1) * B ≤ B ^ n * B := Nat.mul_le_mul_right B h1
    rw [Nat.add_mul, Nat.one_mul] at h3
    rw [Nat.pow_succ]
    show z_pk B q f a n * B + ((z_o f (a + n)).toInt.toNat - q) < B ^ n * B
    omega
theorem z_pkin {B q : Nat} {f g : Nat → Int32} {a b : Nat} : ∀ (n k : Nat), (∀ j : Nat, j < n → 1 ≤ (z_o f (a + j)).toInt.toNat - q ∧ (z_o f (a + j)).toInt.toNat - q < B) → (∀ j : Nat, j < k → 1 ≤ (z_o g (b + j)).toInt.toNat - q ∧ (z_o g (b + j)).toInt.toNat - q < B) → z_pk B q f a n = z_pk B q g b k → n = k ∧ ∀ j : Nat, j < n → (z_o f (a + j)).toInt.toNat = (z_o g (b + j)).toInt.toNat
  | 0, 0, _, _, _ => ⟨rfl, fun j hj => absurd hj (Nat.not_lt_zero j)⟩
  | 0, k + 1, _, h, e => by
    have h2 := h k (by omega)
    have e : 0 = z_pk B q g b k * B + ((z_o g (b + k)).toInt.toNat - q) := e
    omega
  | n + 1, 0, h, _, e => by
    have h2 := h n (by omega)
    have e : z_pk B q f a n * B + ((z_o f (a + n)).toInt.toNat - q) = 0 := e
    omega
  | n + 1, k + 1, h, h', e => by
    have h1 := h n (by omega)
    have h2 := h' k (by omega)
    have e : z_pk B q f a n * B + ((z_o f (a + n)).toInt.toNat - q) = z_pk B q g b k * B + ((z_o g (b + k)).toInt.toNat - q) := e
    have hB : 0 < B := by omega
    have m1 := congrArg (· % B) e
    simp only [Nat.mul_add_mod_self_right, Nat.mul_comm _ B, Nat.mul_add_mod, Nat.mod_eq_of_lt h1.2, Nat.mod_eq_of_lt h2.2] at m1
    have d1 : z_pk B q f a n * B = z_pk B q g b k * B := by omega
    have d2 := Nat.eq_of_mul_eq_mul_right hB d1
    obtain ⟨i1, i2⟩ := z_pkin n k (fun j hj => h j (by omega)) (fun j hj => h' j (by omega)) d2
    refine ⟨by omega, fun j hj => ?_⟩
    rcases Nat.lt_or_ge j n with h5 | h5
    · exact i2 j h5
    · have h6 : j = n := by omega
      subst h6
      subst i1
      omega
theorem z_c5N {f : Nat → Int32} {a : Nat} : ∀ (n : Nat), n ≤ 7 → z_Ls f a n → z_N (z_c5 f a n) = z_pk 32 96 f a n
  | 0, _, _ => rfl
  | n + 1, h7, hL => by
    have ih := z_c5N n (by omega) (fun j hj => hL j (by omega))
    have hc := hL n (by omega)
    obtain ⟨c1, c2⟩ := hc
    have b := z_pklt (B := 32) (q := 96) (by decide) (f := f) (a := a) n (fun j hj => by have := (hL j (by omega)).1; have := (hL j (by omega)).2; omega)
    have b7 : (32 : Nat) ^ n ≤ 32 ^ 6 := Nat.pow_le_pow_right (by decide) (by omega)
    have t1 : (z_o f (a + n) - 97 + 1).toInt = (z_o f (a + n)).toInt - 96 := by
      have s1 := z_subT (x := z_o f (a + n)) (y := 97) (a := 97) (b := 122) (c := 97) (d := 97) ⟨c1, c2⟩ ⟨by decide, by decide⟩ rfl
      have e97 : (97 : Int32).toInt = 97 := rfl
      have e1 : (1 : Int32).toInt = 1 := rfl
      have s2 := z_addT (x := z_o f (a + n) - 97) (y := 1) (a := 0) (b := 25) (c := 1) (d := 1) ⟨by omega, by omega⟩ ⟨by decide, by decide⟩ rfl
      omega
    have y1 := z_N32 (x := z_o f (a + n) - 97 + 1) (by omega)
    have r := z_shor (k := 5) (x := z_c5 f a n) (y := (z_o f (a + n) - 97 + 1).toInt64) (s := (5 : Int32).toInt64 &&& 63) rfl (by rw [y1]; omega) (by rw [ih]; omega)
    show z_N (z_c1w (z_c5 f a n) (z_o f (a + n))) = z_pk 32 96 f a n * 32 + ((z_o f (a + n)).toInt.toNat - 96)
    unfold z_c1w
    rw [r, ih, y1]
    omega
theorem z_w8N {f : Nat → Int32} {a : Nat} : ∀ (n : Nat), n ≤ 7 → z_Ls f a n → z_N (z_w8 f a n) = z_pk 256 0 f a n
  | 0, _, _ => rfl
  | n + 1, h7, hL => by
    have ih := z_w8N n (by omega) (fun j hj => hL j (by omega))
    have hc := hL n (by omega)
    obtain ⟨c1, c2⟩ := hc
    have b := z_pklt (B := 256) (q := 0) (by decide) (f := f) (a := a) n (fun j hj => by have := (hL j (by omega)).1; have := (hL j (by omega)).2; omega)
    have b7 : (256 : Nat) ^ n ≤ 256 ^ 6 := Nat.pow_le_pow_right (by decide) (by omega)
    have y1 := z_N32 (x := z_o f (a + n)) (by omega)
    have r := z_shor (k := 8) (x := z_w8 f a n) (y := (z_o f (a + n)).toInt64) (s := (8 : Int32).toInt64 &&& 63) rfl (by rw [y1]; omega) (by rw [ih]; omega)
    show z_N (z_w1w (z_w8 f a n) (z_o f (a + n))) = z_pk 256 0 f a n * 256 + ((z_o f (a + n)).toInt.toNat - 0)
    unfold z_w1w
    rw [r, ih, y1]
    omega
def z_nw (w c : Int64) : Prop := ∃ (f : Nat → Int32) (a n : Nat), n ≤ 7 ∧ z_Ls f a n ∧ w = z_w8 f a n ∧ c = z_c5 f a n
theorem z_pkeq {B q : Nat} {f g : Nat → Int32} {a b : Nat} : ∀ (n : Nat), (∀ j : Nat, j < n → (z_o f (a + j)).toInt.toNat = (z_o g (b + j)).toInt.toNat) → z_pk B q f a n = z_pk B q g b n
  | 0, _ => rfl
  | n + 1, h => by
    have i := z_pkeq (B := B) (q := q) n (fun j hj => h j (by omega))
    show z_pk B q f a n * B + ((z_o f (a + n)).toInt.toNat - q) = z_pk B q g b n * B + ((z_o g (b + n)).toInt.toNat - q)
    rw [i, h n (by omega)]
theorem z_nwE {w c w' c' : Int64} (h : z_nw w c) (h' : z_nw w' c') : w = w' ↔ c = c' := by
  obtain ⟨f, a, n, hn, hL, rfl, rfl⟩ := h
  obtain ⟨g, b, k, hk, hM, rfl, rfl⟩ := h'
  have L5 : ∀ {f : Nat → Int32} {a n : Nat}, z_Ls f a n → ∀ j : Nat, j < n → 1 ≤ (z_o f (a + j)).toInt.toNat - 96 ∧ (z_o f (a + j)).toInt.toNat - 96 < 32 := fun h j hj => by
    have h1 := (h j hj).1
    have h2 := (h j hj).2
    omega
  have L8 : ∀ {f : Nat → Int32} {a n : Nat}, z_Ls f a n → ∀ j : Nat, j < n → 1 ≤ (z_o f (a + j)).toInt.toNat - 0 ∧ (z_o f (a + j)).toInt.toNat - 0 < 256 := fun h j hj => by
    have h1 := (h j hj).1
    have h2 := (h j hj).2
    omega
  constructor
  · intro e
    have e1 := congrArg z_N e
    rw [z_w8N n hn hL, z_w8N k hk hM] at e1
    obtain ⟨i1, i2⟩ := z_pkin n k (L8 hL) (L8 hM) e1
    subst i1
    apply z_Ninj
    rw [z_c5N n hn hL, z_c5N n hk hM]
    exact z_pkeq n i2
  · intro e
    have e1 := congrArg z_N e
    rw [z_c5N n hn hL, z_c5N k hk hM] at e1
    obtain ⟨i1, i2⟩ := z_pkin n k (L5 hL) (L5 hM) e1
    subst i1
    apply z_Ninj
    rw [z_w8N n hn hL, z_w8N n hk hM]
    exact z_pkeq n i2
theorem z_o0 (f : Nat → Int32) (k : Nat) : 0 ≤ (z_o f k).toInt := (z_andR (c := 255) (d := 255) (x := f k) (y := 255) ⟨by decide, by decide⟩ rfl).1
def z_alnum (c : Int32) : Prop := z_isL c ∨ z_isD c
def z_run (f : Nat → Int32) (t A E : Nat) : Prop := A ≤ E ∧ (∀ j : Nat, A ≤ j → j < E → j < t ∧ z_alnum (z_o f j)) ∧ ¬ (E < t ∧ z_alnum (z_o f E))
def z_stp (t m A : Nat) : Prop := ¬ (A < t ∧ A < m)
def z_sgn (c : Int32) : Prop := c = 59 ∨ c = 60 ∨ c = 61 ∨ c = 62 ∨ c = 40 ∨ c = 41
def z_Te (t m A : Nat) : Prop := z_stp t m A ∧ t ≤ m
def z_Ts (f : Nat → Int32) (t m A : Nat) (c : Int32) : Prop := ¬ z_stp t m A ∧ z_o f A = c ∧ z_sgn c
def z_Tn (f : Nat → Int32) (t m A : Nat) (n : Int32) : Prop := ¬ z_stp t m A ∧ ∃ E : Nat, z_run f t A E ∧ A < E ∧ E - A ≤ 3 ∧ z_Ds f A (E - A) ∧ n = z_n10 f A (E - A)
def z_Tl (f : Nat → Int32) (t m A : Nat) (c : Int64) : Prop := ¬ z_stp t m A ∧ ∃ E : Nat, z_run f t A E ∧ A < E ∧ E - A ≤ 7 ∧ z_Ls f A (E - A) ∧ c = z_c5 f A (E - A)
def z_Tb (f : Nat → Int32) (t A B : Nat) : Prop := (z_alnum (z_o f A) ∧ z_run f t A B) ∨ (¬ z_alnum (z_o f A) ∧ B = A + 1)
def z_Tx (f : Nat → Int32) (t m B A : Nat) : Prop := ∃ i : Nat, B ≤ i ∧ (∀ j : Nat, B ≤ j → j < i → j < t ∧ z_isB (z_o f j)) ∧ ¬ (i < t ∧ z_isB (z_o f i)) ∧ ((¬ z_stp t m i ∧ A = i) ∨ (z_stp t m i ∧ A = min t m))
def z_Ta (f : Nat → Int32) (t m A A' : Nat) : Prop := ¬ z_stp t m A ∧ ∃ B : Nat, z_Tb f t A B ∧ z_Tx f t m B A'
theorem z_runE {f : Nat → Int32} {t A E E' : Nat} (h : z_run f t A E) (h' : z_run f t A E') : E = E' := by
  rcases Nat.lt_trichotomy E E' with q | q | q
  · exact absurd (h'.2.1 E h.1 q) h.2.2
  · exact q
  · exact absurd (h.2.1 E' h'.1 q) h'.2.2
theorem z_TnE {f : Nat → Int32} {t m A : Nat} {n n' : Int32} (h : z_Tn f t m A n) (h' : z_Tn f t m A n') : n = n' := by
  obtain ⟨-, E, r, -, -, -, e⟩ := h
  obtain ⟨-, E', r', -, -, -, e'⟩ := h'
  have q := z_runE r r'
  subst q
  exact e.trans e'.symm
theorem z_TlE {f : Nat → Int32} {t m A : Nat} {n n' : Int64} (h : z_Tl f t m A n) (h' : z_Tl f t m A n') : n = n' := by
  obtain ⟨-, E, r, -, -, -, e⟩ := h
  obtain ⟨-, E', r', -, -, -, e'⟩ := h'
  have q := z_runE r r'
  subst q
  exact e.trans e'.symm
theorem z_TbE {f : Nat → Int32} {t A B B' : Nat} (h : z_Tb f t A B) (h' : z_Tb f t A B') : B = B' := by
  rcases h with ⟨a, r⟩ | ⟨a, r⟩ <;> rcases h' with ⟨a', r'⟩ | ⟨a', r'⟩
  · exact z_runE r r'
  · exact absurd a a'
  · exact absurd a' a
  · exact r.trans r'.symm
theorem z_TxE {f : Nat → Int32} {t m B A A' : Nat} (h : z_Tx f t m B A) (h' : z_Tx f t m B A') : A = A' := by
  obtain ⟨i, h1, h2, h3, h4⟩ := h
  obtain ⟨k, k1, k2, k3, k4⟩ := h'
  have q : i = k := by
    rcases Nat.lt_trichotomy i k with q | q | q
    · exact absurd (k2 i h1 q) h3
    · exact q
    · exact absurd (h2 k k1 q) k3
  subst q
  rcases h4 with ⟨a, r⟩ | ⟨a, r⟩ <;> rcases k4 with ⟨a', r'⟩ | ⟨a', r'⟩
  · exact r.trans r'.symm
  · exact absurd a' a
  · exact absurd a a'
  · exact r.trans r'.symm
theorem z_TaE {f : Nat → Int32} {t m A B B' : Nat} (h : z_Ta f t m A B) (h' : z_Ta f t m A B') : B = B' := by
  obtain ⟨-, C, r, x⟩ := h
  obtain ⟨-, C', r', x'⟩ := h'
  have q := z_TbE r r'
  subst q
  exact z_TxE x x'
theorem z_isLD {c : Int32} (h : z_isL c) (h' : z_isD c) : False := by
  have h1 := h.1
  have h2 := h'.2
  omega
theorem z_sgnN {c : Int32} (h : z_sgn c) : ¬ z_alnum c := by
  intro q
  have e : c.toInt = 59 ∨ c.toInt = 60 ∨ c.toInt = 61 ∨ c.toInt = 62 ∨ c.toInt = 40 ∨ c.toInt = 41 := by
    rcases h with h | h | h | h | h | h <;> subst h <;> decide
  rcases q with q | q
  · have q1 := q.1
    omega
  · have q1 := q.1
    have q2 := q.2
    omega
theorem z_Ls0 {f : Nat → Int32} {A n : Nat} (h : z_Ls f A n) (hn : 0 < n) : z_isL (z_o f A) := h 0 hn
theorem z_Ds0 {f : Nat → Int32} {A n : Nat} (h : z_Ds f A n) (hn : 0 < n) : z_isD (z_o f A) := h 0 hn
theorem z_TsNn {f : Nat → Int32} {t m A : Nat} {c n : Int32} (h : z_Ts f t m A c) (h' : z_Tn f t m A n) : False := by
  obtain ⟨-, e, s⟩ := h
  obtain ⟨-, E, -, l, -, d, -⟩ := h'
  rw [← e] at s
  exact z_sgnN s (Or.inr (z_Ds0 d (by omega)))
theorem z_TsNl {f : Nat → Int32} {t m A : Nat} {c : Int32} {n : Int64} (h : z_Ts f t m A c) (h' : z_Tl f t m A n) : False := by
  obtain ⟨-, e, s⟩ := h
  obtain ⟨-, E, -, l, -, d, -⟩ := h'
  rw [← e] at s
  exact z_sgnN s (Or.inl (z_Ls0 d (by omega)))
theorem z_TnNl {f : Nat → Int32} {t m A : Nat} {c : Int32} {n : Int64} (h : z_Tn f t m A c) (h' : z_Tl f t m A n) : False := by
  obtain ⟨-, E, -, l, -, d, -⟩ := h
  obtain ⟨-, E', -, l', -, d', -⟩ := h'
  exact z_isLD (z_Ls0 d' (by omega)) (z_Ds0 d (by omega))
def z_wi (cds : List Int64) (c : Int64) (w : Nat) : Prop := (w = 0 ∧ ∀ i : Nat, 1 ≤ i → i < 22 → ¬ c = cds.getD i 0) ∨ (1 ≤ w ∧ w < 22 ∧ c = cds.getD w 0)
def z_ctk (cds : List Int64) (f : Nat → Int32) (t m k a v : Int32) (c : Int64) (w : Nat) (b : Int32) : Prop :=
  0 ≤ a.toInt ∧ ((z_stp t.toInt.toNat m.toInt.toNat a.toInt.toNat ∧ w = 0 ∧ ((t.toInt ≤ m.toInt ∧ k = 0) ∨ (m.toInt < t.toInt ∧ k = 1))) ∨
  (¬ z_stp t.toInt.toNat m.toInt.toNat a.toInt.toNat ∧ 0 ≤ b.toInt ∧ z_Tb f t.toInt.toNat a.toInt.toNat b.toInt.toNat ∧
    ((k = 2 ∧ w = 0 ∧ z_Ts f t.toInt.toNat m.toInt.toNat a.toInt.toNat v) ∨ (k = 3 ∧ w = 0 ∧ z_Tn f t.toInt.toNat m.toInt.toNat a.toInt.toNat v) ∨ (k = 4 ∧ z_Tl f t.toInt.toNat m.toInt.toNat a.toInt.toNat c ∧ z_wi cds c w) ∨
     (k = 1 ∧ w = 0 ∧ (∀ x : Int32, ¬ z_Ts f t.toInt.toNat m.toInt.toNat a.toInt.toNat x) ∧ (∀ x : Int32, ¬ z_Tn f t.toInt.toNat m.toInt.toNat a.toInt.toNat x) ∧ ∀ x : Int64, ¬ z_Tl f t.toInt.toNat m.toInt.toNat a.toInt.toNat x))))
def z_qb (r c : Int32) : Prop := (r = 1 ∧ z_isB c) ∨ (r = 0 ∧ ¬ z_isB c)
def z_ql (r c : Int32) : Prop := (r = 1 ∧ z_isL c) ∨ (r = 0 ∧ ¬ z_isL c)
def z_qd (r c : Int32) : Prop := (r = 1 ∧ z_isD c) ∨ (r = 0 ∧ ¬ z_isD c)
theorem z_ltI {a b c d : Int} {x y : Int32} (hx : z_in a b x) (hy : z_in c d y) (k : decide (b < c) = true) : x < y := by
  have k := of_decide_eq_true k
  have h1 := hx.2
  have h2 := hy.1
  exact Int32.lt_iff_toInt_lt.mpr (by omega)
theorem z_leI {a b c d : Int} {x y : Int32} (hx : z_in a b x) (hy : z_in c d y) (k : decide (b ≤ c) = true) : x ≤ y := by
  have k := of_decide_eq_true k
  have h1 := hx.2
  have h2 := hy.1
  exact Int32.le_iff_toInt_le.mpr (by omega)
theorem z_qb1 {c : Int32} (h : c = 32) : z_qb 1 c := Or.inl ⟨rfl, Or.inl h⟩
theorem z_qb2 {c : Int32} (h : c = 10) : z_qb 1 c := Or.inl ⟨rfl, Or.inr h⟩
theorem z_qb0 {c : Int32} (h : ¬ c = 32) (h' : ¬ c = 10) : z_qb 0 c := Or.inr ⟨rfl, fun q => q.elim h h'⟩
theorem z_ql1 {c : Int32} (h : z_in 97 122 c) : z_ql 1 c := Or.inl ⟨rfl, h⟩
theorem z_ql0 {c : Int32} (h : z_in (-2147483648) 96 c) : z_ql 0 c := Or.inr ⟨rfl, fun q => by have := q.1; have := h.2; omega⟩
theorem z_ql2 {c : Int32} (h : z_in 123 2147483647 c) : z_ql 0 c := Or.inr ⟨rfl, fun q => by have := q.2; have := h.1; omega⟩
theorem z_qd1 {c : Int32} (h : z_in 48 57 c) : z_qd 1 c := Or.inl ⟨rfl, h⟩
theorem z_qd0 {c : Int32} (h : z_in (-2147483648) 47 c) : z_qd 0 c := Or.inr ⟨rfl, fun q => by have := q.1; have := h.2; omega⟩
theorem z_qd2 {c : Int32} (h : z_in 58 2147483647 c) : z_qd 0 c := Or.inr ⟨rfl, fun q => by have := q.2; have := h.1; omega⟩
theorem z_qT {r : Int32} {P : Prop} (h : (r = 1 ∧ P) ∨ (r = 0 ∧ ¬ P)) (hr : r = 1) : P := by
  rcases h with h | h
  · exact h.2
  · rw [hr] at h
    exact absurd h.1 (by decide)
theorem z_qF {r : Int32} {P : Prop} (h : (r = 1 ∧ P) ∨ (r = 0 ∧ ¬ P)) (hr : r = 0) : ¬ P := by
  rcases h with h | h
  · rw [hr] at h
    exact absurd h.1 (by decide)
  · exact h.2
def z_wl (r x : Int64) (c : Int32) : Prop := r = z_c1w x c
theorem z_wlI {r a b x : Int64} {i c d : Int32} (e1 : r = a ||| b) (e2 : a = x <<< ((5 : Int32).toInt64 &&& 63)) (e3 : b = c.toInt64) (e4 : c = d + 1) (e5 : d = i - 97) : z_wl r x i := by
  rw [e5] at e4
  rw [e4] at e3
  rw [e2, e3] at e1
  exact e1
def z_kk (r L D : Int32) : Prop := (r = 4 ∧ D = 0 ∧ L.toInt ≤ 7) ∨ (r = 3 ∧ ¬ (D = 0 ∧ L.toInt ≤ 7) ∧ L = 0 ∧ D.toInt ≤ 3) ∨ (r = 1 ∧ ¬ (D = 0 ∧ L.toInt ≤ 7) ∧ ¬ (L = 0 ∧ D.toInt ≤ 3))
theorem z_kk4 {L D : Int32} (h : D = 0) (h' : z_in (-2147483648) 7 L) : z_kk 4 L D := Or.inl ⟨rfl, h, h'.2⟩
theorem z_kk3a {L D : Int32} (h : ¬ D = 0) (h' : L = 0) (h3 : z_in (-2147483648) 3 D) : z_kk 3 L D := Or.inr (Or.inl ⟨rfl, fun q => h q.1, h', h3.2⟩)
theorem z_kk1a {L D : Int32} (h : ¬ D = 0) (h' : ¬ L = 0) : z_kk 1 L D := Or.inr (Or.inr ⟨rfl, fun q => h q.1, fun q => h' q.1⟩)
theorem z_kk1b {L D : Int32} (h : ¬ D = 0) (h3 : z_in 4 2147483647 D) : z_kk 1 L D := Or.inr (Or.inr ⟨rfl, fun q => h q.1, fun q => by have := q.2; have := h3.1; omega⟩)
theorem z_kk1c {L D : Int32} (h' : z_in 8 2147483647 L) : z_kk 1 L D := Or.inr (Or.inr ⟨rfl, fun q => by have := q.2; have := h'.1; omega, fun q => by have e := congrArg Int32.toInt q.1; have e0 : (0 : Int32).toInt = 0 := rfl; have := h'.1; omega⟩)
def z_rr (f : Nat → Int32) (t A L i : Int32) (c : Int64) (v : Int32) : Prop := 0 ≤ A.toInt ∧ A.toInt ≤ i.toInt ∧ 0 ≤ L.toInt ∧ L.toInt ≤ i.toInt - A.toInt ∧ (∀ j : Nat, A.toInt.toNat ≤ j → j < i.toInt.toNat → j < t.toInt.toNat ∧ z_alnum (z_o f j)) ∧
  ((L.toInt = 0 → v = z_n10 f A.toInt.toNat (i.toInt - A.toInt).toNat) ∧ (L.toInt = 0 ↔ z_Ds f A.toInt.toNat (i.toInt - A.toInt).toNat)) ∧
  ((L.toInt = i.toInt - A.toInt → c = z_c5 f A.toInt.toNat (i.toInt - A.toInt).toNat) ∧ (L.toInt = i.toInt - A.toInt ↔ z_Ls f A.toInt.toNat (i.toInt - A.toInt).toNat))
def z_z0 (v : Int32) : Prop := v = 0
def z_y0 (v : Int64) : Prop := v = 0
theorem z_rr0 {f : Nat → Int32} {t A v : Int32} {c : Int64} (h0 : z_in 0 939 A) (hv : z_z0 v) (hc : z_y0 c) : z_rr f t A 0 A c v := by
  have h1 := h0.1
  have e : (A.toInt - A.toInt).toNat = 0 := by omega
  have e0 : (0 : Int32).toInt = 0 := rfl
  refine ⟨h1, Int.le_refl _, by decide, by omega, fun j h2 h3 => absurd h3 (by omega), ⟨fun _ => ?_, fun _ j hj => ?_, fun _ => rfl⟩, ⟨fun _ => ?_, fun _ j hj => ?_, fun _ => by omega⟩⟩
  · rw [e]; exact hv
  · exact absurd hj (by omega)
  · rw [e]; exact hc
  · exact absurd hj (by omega)
theorem z_rrB {f : Nat → Int32} {t A L i v : Int32} {c : Int64} (hI : z_rr f t A L i c v) (hi : z_in 0 939 i) : z_in 0 939 L := ⟨hI.2.2.1, by have h1 := hI.2.2.2.1; have h2 := hI.1; have h3 := hi.2; omega⟩
theorem z_Lss {f : Nat → Int32} {A n : Nat} : z_Ls f A (n + 1) ↔ z_Ls f A n ∧ z_isL (z_o f (A + n)) := by
  refine ⟨fun h => ⟨fun j hj => h j (by omega), h n (by omega)⟩, fun h j hj => ?_⟩
  rcases Nat.lt_or_ge j n with q | q
  · exact h.1 j q
  · have e : j = n := by omega
    rw [e]
    exact h.2
theorem z_Dss {f : Nat → Int32} {A n : Nat} : z_Ds f A (n + 1) ↔ z_Ds f A n ∧ z_isD (z_o f (A + n)) := by
  refine ⟨fun h => ⟨fun j hj => h j (by omega), h n (by omega)⟩, fun h j hj => ?_⟩
  rcases Nat.lt_or_ge j n with q | q
  · exact h.1 j q
  · have e : j = n := by omega
    rw [e]
    exact h.2
theorem z_rrL {f : Nat → Int32} {t A L i L' i' v g1 g2 r : Int32} {c c' : Int64} (tL : L'.toInt = L.toInt + 1) (ti : i'.toInt = i.toInt + 1) (hI : z_rr f t A L i c v) (hl : i < t) (hw : z_wl c' c g2) (hg2 : z_gt g2 f t i) (hq : z_ql r g1) (hr : r = 1) (hg1 : z_gt g1 f t i) : z_rr f t A L' i' c' v := by
  obtain ⟨h0, h1, h2, h3, h4, ⟨h5, h6⟩, h7, h8⟩ := hI
  have hl := Int32.lt_iff_toInt_lt.mp hl
  have eg1 := hg1 (by omega) hl
  have eg2 := hg2 (by omega) hl
  have lt := z_qT hq hr
  rw [eg1] at lt
  have en : (i'.toInt - A.toInt).toNat = (i.toInt - A.toInt).toNat + 1 := by omega
  have ei : A.toInt.toNat + (i.toInt - A.toInt).toNat = i.toInt.toNat := by omega
  refine ⟨h0, by omega, by omega, by omega, fun j a b => ?_, ⟨fun q => absurd q (by omega), fun q => absurd q (by omega), fun q => ?_⟩, ⟨fun q => ?_, ?_⟩⟩
  · rcases Nat.lt_or_ge j i.toInt.toNat with q | q
    · exact h4 j a q
    · have e : j = i.toInt.toNat := by omega
      rw [e]
      exact ⟨by omega, Or.inl lt⟩
  · rw [en] at q
    have q2 := (z_Dss.mp q).2
    rw [ei] at q2
    exact (z_isLD lt q2).elim
  · have q2 := h7 (by omega)
    rw [en]
    show c' = z_c1w (z_c5 f A.toInt.toNat (i.toInt - A.toInt).toNat) (z_o f (A.toInt.toNat + (i.toInt - A.toInt).toNat))
    rw [ei, ← q2, ← eg2]
    exact hw
  · rw [en, z_Lss, ei]
    constructor
    · intro q
      exact ⟨h8.mp (by omega), lt⟩
    · intro q
      have := h8.mpr q.1
      omega
theorem z_rrD {f : Nat → Int32} {t A L i i' v v' x y g1 g2 r : Int32} {c : Int64} (ti : i'.toInt = i.toInt + 1) (hI : z_rr f t A L i c v) (hl : i < t) (e1 : v' = x + y) (e2 : x = v * 10) (e3 : y = g2 - 48) (hg2 : z_gt g2 f t i) (hq : z_qd r g1) (hr : r = 1) (hg1 : z_gt g1 f t i) : z_rr f t A L i' c v' := by
  obtain ⟨h0, h1, h2, h3, h4, ⟨h5, h6⟩, h7, h8⟩ := hI
  have hl := Int32.lt_iff_toInt_lt.mp hl
  have eg1 := hg1 (by omega) hl
  have eg2 := hg2 (by omega) hl
  have dg := z_qT hq hr
  rw [eg1] at dg
  have en : (i'.toInt - A.toInt).toNat = (i.toInt - A.toInt).toNat + 1 := by omega
  have ei : A.toInt.toNat + (i.toInt - A.toInt).toNat = i.toInt.toNat := by omega
  refine ⟨h0, by omega, by omega, by omega, fun j a b => ?_, ⟨fun q => ?_, ?_⟩, ⟨fun q => absurd q (by omega), fun q => absurd q (by omega), fun q => ?_⟩⟩
  · rcases Nat.lt_or_ge j i.toInt.toNat with q | q
    · exact h4 j a q
    · have e : j = i.toInt.toNat := by omega
      rw [e]
      exact ⟨by omega, Or.inr dg⟩
  · have q2 := h5 q
    rw [en]
    show v' = z_n10 f A.toInt.toNat (i.toInt - A.toInt).toNat * 10 + (z_o f (A.toInt.toNat + (i.toInt - A.toInt).toNat) - 48)
    rw [ei, ← q2, ← eg2, e1, e2, e3]
  · rw [en, z_Dss, ei]
    constructor
    · intro q
      exact ⟨h6.mp q, dg⟩
    · intro q
      exact h6.mpr q.1
  · rw [en] at q
    have q2 := (z_Lss.mp q).2
    rw [ei] at q2
    exact (z_isLD q2 dg).elim
theorem z_rrX {f : Nat → Int32} {t i i1 g1 g2 r1 r2 : Int32} {P : Prop} (_ : i1.toInt = i.toInt + 1) (h0 : z_in 0 939 i) (hl : i < t) (hq : z_ql r1 g1) (hr : r1 = 1) (hg1 : z_gt g1 f t i) (hq2 : z_ql r2 g2) (hr2 : r2 = 0) (hg2 : z_gt g2 f t i) : P := by
  have hl := Int32.lt_iff_toInt_lt.mp hl
  have eg1 := hg1 h0.1 hl
  have eg2 := hg2 h0.1 hl
  have a := z_qT hq hr
  have b := z_qF hq2 hr2
  rw [eg1] at a
  rw [eg2] at b
  exact absurd a b
def z_ro (cds : List Int64) (f : Nat → Int32) (t A k v : Int32) (c : Int64) (w : Nat) (b : Int32) : Prop := 0 ≤ A.toInt ∧ A.toInt < b.toInt ∧ z_run f t.toInt.toNat A.toInt.toNat b.toInt.toNat ∧
  ((k = 4 ∧ b.toInt - A.toInt ≤ 7 ∧ z_Ls f A.toInt.toNat (b.toInt - A.toInt).toNat ∧ c = z_c5 f A.toInt.toNat (b.toInt - A.toInt).toNat ∧ z_wi cds c w) ∨
   (k = 3 ∧ w = 0 ∧ b.toInt - A.toInt ≤ 3 ∧ z_Ds f A.toInt.toNat (b.toInt - A.toInt).toNat ∧ v = z_n10 f A.toInt.toNat (b.toInt - A.toInt).toNat) ∨
   (k = 1 ∧ w = 0 ∧ ¬ (b.toInt - A.toInt ≤ 7 ∧ z_Ls f A.toInt.toNat (b.toInt - A.toInt).toNat) ∧ ¬ (b.toInt - A.toInt ≤ 3 ∧ z_Ds f A.toInt.toNat (b.toInt - A.toInt).toNat)))
def z_pa (f : Nat → Int32) (A : Int32) : Prop := z_alnum (z_o f A.toInt.toNat)
def z_px (f : Nat → Int32) (t i : Int32) : Prop := ¬ (i.toInt.toNat < t.toInt.toNat ∧ z_alnum (z_o f i.toInt.toNat))
theorem z_pxT {f : Nat → Int32} {t i : Int32} (h : t ≤ i) : z_px f t i := fun q => by
  have h := Int32.le_iff_toInt_le.mp h
  have := q.1
  omega
theorem z_pxN {f : Nat → Int32} {t i g1 g2 r1 r2 : Int32} (h0 : z_in 0 940 i) (hl : i < t) (hq : z_ql r1 g1) (hr : r1 = 0) (hg1 : z_gt g1 f t i) (hq2 : z_qd r2 g2) (hr2 : r2 = 0) (hg2 : z_gt g2 f t i) : z_px f t i := by
  have hl := Int32.lt_iff_toInt_lt.mp hl
  have eg1 := hg1 h0.1 hl
  have eg2 := hg2 h0.1 hl
  have a := z_qF hq hr
  have b := z_qF hq2 hr2
  rw [eg1] at a
  rw [eg2] at b
  exact fun q => q.2.elim a b
theorem z_paL {f : Nat → Int32} {t i g1 r1 : Int32} (h0 : z_in 0 940 i) (hl : i < t) (hq : z_ql r1 g1) (hr : r1 = 1) (hg1 : z_gt g1 f t i) : z_pa f i := by
  have eg1 := hg1 h0.1 (Int32.lt_iff_toInt_lt.mp hl)
  have a := z_qT hq hr
  rw [eg1] at a
  exact Or.inl a
theorem z_paD {f : Nat → Int32} {t i g1 r1 : Int32} (h0 : z_in 0 940 i) (hl : i < t) (hq : z_qd r1 g1) (hr : r1 = 1) (hg1 : z_gt g1 f t i) : z_pa f i := by
  have eg1 := hg1 h0.1 (Int32.lt_iff_toInt_lt.mp hl)
  have a := z_qT hq hr
  rw [eg1] at a
  exact Or.inr a
theorem z_roD {f : Nat → Int32} {t A L i D y v : Int32} {c : Int64} (hI : z_rr f t A L i c v) (hi : z_in 0 940 i) (e1 : D = y - L) (e2 : y = i - A) : D.toInt = i.toInt - A.toInt - L.toInt := by
  obtain ⟨h0, h1, h2, h3, -⟩ := hI
  have i1 := hi.1
  have i2 := hi.2
  have s1 := z_subT (x := i) (y := A) (a := 0) (b := 940) (c := 0) (d := 940) hi ⟨h0, by omega⟩ rfl
  rw [← e2] at s1
  have s2 := z_subT (x := y) (y := L) (a := 0) (b := 940) (c := 0) (d := 940) ⟨by omega, by omega⟩ ⟨h2, by omega⟩ rfl
  rw [← e1] at s2
  omega
def z_lt9 (a b : Int32) : Prop := a < b
theorem z_lt9I {a b : Int32} (h : a < b) : z_lt9 a b := h
theorem z_roI {cds : List Int64} {f : Nat → Int32} {t A L i D y v k : Int32} {c : Int64} {w : Nat} (hI : z_rr f t A L i c v) (hp : z_pa f A) (hA : z_lt9 A t) (hx : z_px f t i) (hi : z_in 0 940 i) (e1 : D = y - L) (e2 : y = i - A) (hk : z_kk k L D) (hw : (k = 4 → z_wi cds c w) ∧ (¬ k = 4 → w = 0)) : z_ro cds f t A k v c w i := by
  have hA := Int32.lt_iff_toInt_lt.mp hA
  have eD := z_roD hI hi e1 e2
  obtain ⟨h0, h1, h2, h3, h4, ⟨h5, h6⟩, h7, h8⟩ := hI
  have hne : A.toInt < i.toInt := by
    rcases Nat.lt_or_ge A.toInt.toNat i.toInt.toNat with q | q
    · omega
    · have e : i.toInt.toNat = A.toInt.toNat := by omega
      unfold z_px at hx
      rw [e] at hx
      exact absurd ⟨by omega, hp⟩ hx
  have e0 : (0 : Int32).toInt = 0 := rfl
  have d0 : ∀ {x : Int32}, x = 0 ↔ x.toInt = 0 := fun {x} => ⟨fun q => by rw [q]; rfl, fun q => Int32.toInt_inj.mp (q.trans e0.symm)⟩
  refine ⟨h0, hne, ⟨by omega, fun j a b => h4 j a b, hx⟩, ?_⟩
  rcases hk with ⟨q, q1, q2⟩ | ⟨q, q1, q2, q3⟩ | ⟨q, q1, q2⟩
  · have d := d0.mp q1
    have hL : L.toInt = i.toInt - A.toInt := by omega
    exact Or.inl ⟨q, by omega, h8.mp hL, h7 hL, hw.1 q⟩
  · have d := d0.mp q2
    exact Or.inr (Or.inl ⟨q, hw.2 (by rw [q]; decide), by omega, h6.mp d, h5 d⟩)
  · refine Or.inr (Or.inr ⟨q, hw.2 (by rw [q]; decide), fun p => q1 ?_, fun p => q2 ?_⟩)
    · have hL := h8.mpr p.2
      exact ⟨d0.mpr (by omega), by omega⟩
    · have hL := h6.mpr p.2
      exact ⟨d0.mpr hL, by omega⟩
theorem z_ro4 {cds : List Int64} {f : Nat → Int32} {t A L i D y v k : Int32} {c : Int64} {w : Nat} (hI : z_rr f t A L i c v) (hp : z_pa f A) (hA : z_lt9 A t) (hx : z_px f t i) (hi : z_in 0 940 i) (e1 : D = y - L) (e2 : y = i - A) (hk : z_kk k L D) (h4 : k = 4) (hw : z_wi cds c w) : z_ro cds f t A k v c w i := z_roI hI hp hA hx hi e1 e2 hk ⟨fun _ => hw, fun q => absurd h4 q⟩
theorem z_ro0 {cds : List Int64} {f : Nat → Int32} {t A L i D y v k : Int32} {c : Int64} (hI : z_rr f t A L i c v) (hp : z_pa f A) (hA : z_lt9 A t) (hx : z_px f t i) (hi : z_in 0 940 i) (e1 : D = y - L) (e2 : y = i - A) (hk : z_kk k L D) (h4 : ¬ k = 4) : z_ro cds f t A k v c 0 i := z_roI hI hp hA hx hi e1 e2 hk ⟨fun q => absurd q h4, fun _ => rfl⟩
def z_rsg (f : Nat → Int32) (t A k v b : Int32) : Prop := z_gt v f t A ∧ b.toInt = A.toInt + 1 ∧ ((k = 2 ∧ z_sgn v) ∨ (k = 1 ∧ ¬ z_sgn v))
def z_so (t m k a : Int32) : Prop := ((t.toInt ≤ m.toInt ∧ a = t) ∨ (m.toInt < t.toInt ∧ a = m)) ∧ ((t.toInt ≤ m.toInt ∧ k = 0) ∨ (m.toInt < t.toInt ∧ k = 1))
def z_sk (f : Nat → Int32) (t b i : Int32) : Prop := 0 ≤ b.toInt ∧ b.toInt ≤ i.toInt ∧ ∀ j : Nat, b.toInt.toNat ≤ j → j < i.toInt.toNat → j < t.toInt.toNat ∧ z_isB (z_o f j)
theorem z_sk0 {f : Nat → Int32} {t b : Int32} (h : z_in 0 940 b) : z_sk f t b b := ⟨h.1, Int.le_refl _, fun j h1 h2 => absurd h2 (by omega)⟩
theorem z_skS {f : Nat → Int32} {t b i i' g r : Int32} (hI : z_sk f t b i) (ti : i'.toInt = i.toInt + 1) (hl : i < t) (hq : z_qb r g) (hr : r = 1) (hg : z_gt g f t i) : z_sk f t b i' := by
  obtain ⟨h0, h1, h2⟩ := hI
  have hl := Int32.lt_iff_toInt_lt.mp hl
  have eg := hg (by omega) hl
  have a := z_qT hq hr
  rw [eg] at a
  refine ⟨h0, by omega, fun j p q => ?_⟩
  rcases Nat.lt_or_ge j i.toInt.toNat with q | q
  · exact h2 j p q
  · have e : j = i.toInt.toNat := by omega
    rw [e]
    exact ⟨by omega, a⟩
def z_skx (f : Nat → Int32) (t i : Int32) : Prop := ¬ (i.toInt.toNat < t.toInt.toNat ∧ z_isB (z_o f i.toInt.toNat))
theorem z_sxT {f : Nat → Int32} {t i : Int32} (h : t ≤ i) : z_skx f t i := fun q => by
  have h := Int32.le_iff_toInt_le.mp h
  have := q.1
  omega
theorem z_sxN {f : Nat → Int32} {t i g r : Int32} (h0 : z_in 0 940 i) (hl : i < t) (hq : z_qb r g) (hr : r = 0) (hg : z_gt g f t i) : z_skx f t i := by
  have eg := hg h0.1 (Int32.lt_iff_toInt_lt.mp hl)
  have a := z_qF hq hr
  rw [eg] at a
  exact fun q => a q.2
theorem z_stpI {t m i : Int32} (h : i < t) (h' : i < m) (h0 : 0 ≤ i.toInt) : ¬ z_stp t.toInt.toNat m.toInt.toNat i.toInt.toNat := by
  have h := Int32.lt_iff_toInt_lt.mp h
  have h' := Int32.lt_iff_toInt_lt.mp h'
  exact fun q => q ⟨by omega, by omega⟩
theorem z_TxI {f : Nat → Int32} {t m b i a : Int32} (hI : z_sk f t b i) (hx : z_skx f t i) (h : i < t) (h' : i < m) (ha : z_sz a i) : z_Tx f t.toInt.toNat m.toInt.toNat b.toInt.toNat a.toInt.toNat := by
  obtain ⟨h0, h1, h2⟩ := hI
  have ha : a = i := ha
  rw [ha]
  exact ⟨i.toInt.toNat, by omega, h2, hx, Or.inl ⟨z_stpI h h' (by omega), rfl⟩⟩
theorem z_soA {t m k a : Int32} (ho : z_so t m k a) (ht : z_in 0 940 t) (hm : z_in 0 940 m) : 0 ≤ a.toInt ∧ a.toInt.toNat = min t.toInt.toNat m.toInt.toNat := by
  have h1 := ht.1
  have h2 := hm.1
  rcases ho.1 with ⟨p, q⟩ | ⟨p, q⟩
  · rw [q]
    exact ⟨h1, by omega⟩
  · rw [q]
    exact ⟨h2, by omega⟩
theorem z_TxS {f : Nat → Int32} {t m b i k a : Int32} (hI : z_sk f t b i) (hx : z_skx f t i) (hs : t ≤ i ∨ m ≤ i) (ho : z_so t m k a) (ht : z_in 0 940 t) (hm : z_in 0 940 m) : z_Tx f t.toInt.toNat m.toInt.toNat b.toInt.toNat a.toInt.toNat := by
  obtain ⟨h0, h1, h2⟩ := hI
  have e := (z_soA ho ht hm).2
  refine ⟨i.toInt.toNat, by omega, h2, hx, Or.inr ⟨fun q => ?_, e⟩⟩
  have q1 := q.1
  have q2 := q.2
  rcases hs with hs | hs
  · have hs := Int32.le_iff_toInt_le.mp hs
    omega
  · have hs := Int32.le_iff_toInt_le.mp hs
    omega
theorem z_TxSt {f : Nat → Int32} {t m b i k a : Int32} (hI : z_sk f t b i) (hx : z_skx f t i) (hs : t ≤ i) (ho : z_so t m k a) (ht : z_in 0 940 t) (hm : z_in 0 940 m) : z_Tx f t.toInt.toNat m.toInt.toNat b.toInt.toNat a.toInt.toNat := z_TxS hI hx (Or.inl hs) ho ht hm
theorem z_TxSm {f : Nat → Int32} {t m b i k a : Int32} (hI : z_sk f t b i) (hx : z_skx f t i) (hs : m ≤ i) (ho : z_so t m k a) (ht : z_in 0 940 t) (hm : z_in 0 940 m) : z_Tx f t.toInt.toNat m.toInt.toNat b.toInt.toNat a.toInt.toNat := z_TxS hI hx (Or.inr hs) ho ht hm
theorem z_ctkS {cds : List Int64} {f : Nat → Int32} {t m k a v b : Int32} {c : Int64} (ho : z_so t m k a) (ht : z_in 0 940 t) (hm : z_in 0 940 m) : z_ctk cds f t m k a v c 0 b := by
  have e := z_soA ho ht hm
  exact ⟨e.1, Or.inl ⟨fun q => by have := q.1; have := q.2; omega, rfl, ho.2⟩⟩
theorem z_ctR {cds : List Int64} {f : Nat → Int32} {t m i k a v b : Int32} {c : Int64} {w : Nat} (hr : z_ro cds f t i k v c w b) (h : i < t) (h' : i < m) (ha : z_sz a i) : z_ctk cds f t m k a v c w b := by
  obtain ⟨h0, h1, h2, h3⟩ := hr
  have ha : a = i := ha
  rw [ha]
  have ns := z_stpI h h' h0
  have al := (h2.2.1 i.toInt.toNat (Nat.le_refl _) (by omega)).2
  have en : (b.toInt - i.toInt).toNat = b.toInt.toNat - i.toInt.toNat := by omega
  rw [en] at h3
  refine ⟨h0, Or.inr ⟨ns, by omega, Or.inl ⟨al, h2⟩, ?_⟩⟩
  rcases h3 with ⟨k1, k2, k3, k4, k5⟩ | ⟨k1, k2, k3, k4, k5⟩ | ⟨k1, k2, k3, k4⟩
  · exact Or.inr (Or.inr (Or.inl ⟨k1, ⟨ns, b.toInt.toNat, h2, by omega, by omega, k3, k4⟩, k5⟩))
  · exact Or.inr (Or.inl ⟨k1, k2, ns, b.toInt.toNat, h2, by omega, by omega, k4, k5⟩)
  · refine Or.inr (Or.inr (Or.inr ⟨k1, k2, fun x q => ?_, fun x q => ?_, fun x q => ?_⟩))
    · obtain ⟨-, e, s⟩ := q
      rw [← e] at s
      exact z_sgnN s al
    · obtain ⟨-, E, r, l, l3, d, -⟩ := q
      have e := z_runE r h2
      rw [e] at l3 d
      exact k4 ⟨by omega, d⟩
    · obtain ⟨-, E, r, l, l3, d, -⟩ := q
      have e := z_runE r h2
      rw [e] at l3 d
      exact k3 ⟨by omega, d⟩
theorem z_ctG {cds : List Int64} {f : Nat → Int32} {t m i k a v b : Int32} {c : Int64} (hr : z_rsg f t i k v b) (h : i < t) (h' : i < m) (h0 : z_in 0 940 i) (hx : z_px f t i) (ha : z_sz a i) : z_ctk cds f t m k a v c 0 b := by
  obtain ⟨hg, hb, hk⟩ := hr
  have ha : a = i := ha
  rw [ha]
  have i0 := h0.1
  have ns := z_stpI h h' i0
  have hl := Int32.lt_iff_toInt_lt.mp h
  have ev := hg i0 hl
  have na : ¬ z_alnum (z_o f i.toInt.toNat) := fun q => hx ⟨by omega, q⟩
  have nf : ∀ {E : Nat}, z_run f t.toInt.toNat i.toInt.toNat E → ¬ i.toInt.toNat < E := fun r q => na (r.2.1 i.toInt.toNat (Nat.le_refl _) q).2
  refine ⟨i0, Or.inr ⟨ns, by omega, Or.inr ⟨na, by omega⟩, ?_⟩⟩
  rcases hk with ⟨k1, k2⟩ | ⟨k1, k2⟩
  · exact Or.inl ⟨k1, rfl, ns, ev.symm, k2⟩
  · refine Or.inr (Or.inr (Or.inr ⟨k1, rfl, fun x q => ?_, fun x q => ?_, fun x q => ?_⟩))
    · obtain ⟨-, e, s⟩ := q
      rw [← e, ← ev] at s
      exact k2 s
    · obtain ⟨-, E, r, l, -⟩ := q
      exact nf r l
    · obtain ⟨-, E, r, l, -⟩ := q
      exact nf r l
theorem z_sgnI {v : Int32} (h : v = 59 ∨ v = 60 ∨ v = 61 ∨ v = 62 ∨ v = 40 ∨ v = 41) : z_sgn v := h
theorem z_sgn1 {v : Int32} (h : v = 59) : z_sgn v := Or.inl h
theorem z_sgn2 {v : Int32} (h : v = 60) : z_sgn v := Or.inr (Or.inl h)
theorem z_sgn3 {v : Int32} (h : v = 61) : z_sgn v := Or.inr (Or.inr (Or.inl h))
theorem z_sgn4 {v : Int32} (h : v = 62) : z_sgn v := Or.inr (Or.inr (Or.inr (Or.inl h)))
theorem z_sgn5 {v : Int32} (h : v = 40) : z_sgn v := Or.inr (Or.inr (Or.inr (Or.inr (Or.inl h))))
theorem z_sgn6 {v : Int32} (h : v = 41) : z_sgn v := Or.inr (Or.inr (Or.inr (Or.inr (Or.inr h))))
theorem z_rsT {f : Nat → Int32} {t A v b : Int32} (hg : z_gt v f t A) (tb : b.toInt = A.toInt + 1) (hs : z_sgn v) : z_rsg f t A 2 v b := ⟨hg, tb, Or.inl ⟨rfl, hs⟩⟩
theorem z_rsF {f : Nat → Int32} {t A v b : Int32} (hg : z_gt v f t A) (tb : b.toInt = A.toInt + 1) (h1 : ¬ v = 59) (h2 : ¬ v = 60) (h3 : ¬ v = 61) (h4 : ¬ v = 62) (h5 : ¬ v = 40) (h6 : ¬ v = 41) : z_rsg f t A 1 v b := ⟨hg, tb, Or.inr ⟨rfl, fun q => by
  rcases q with q | q | q | q | q | q
  · exact h1 q
  · exact h2 q
  · exact h3 q
  · exact h4 q
  · exact h5 q
  · exact h6 q⟩⟩
def z_TX (f : Nat → Int32) (t m b a : Int32) : Prop := z_Tx f t.toInt.toNat m.toInt.toNat b.toInt.toNat a.toInt.toNat
theorem z_lc0 {x y : Int64} {r : Int32} (e : r = lg_cmp x y) (h : r = 0) : x = y := by
  rw [e] at h
  by_cases h1 : y < x
  · have e1 : lg_cmp x y = 1 := by simp [lg_cmp, h1]
    rw [e1] at h
    exact absurd h (by decide)
  · by_cases h2 : x = y
    · exact h2
    · have e1 : lg_cmp x y = -1 := by simp [lg_cmp, h1, h2]
      rw [e1] at h
      exact absurd h (by decide)
theorem z_lc1 {x y : Int64} {r : Int32} (e : r = lg_cmp x y) (h : ¬ r = 0) : ¬ x = y := by
  intro q
  apply h
  rw [e, q]
  simp [lg_cmp, Int64.lt_irrefl]
theorem z_so1 {t m a : Int32} (h : t ≤ m) (e : a = if m < t then m else t) : z_so t m 0 a := by
  have g := Int32.le_iff_toInt_le.mp h
  have q : ¬ m < t := fun q => by have := Int32.lt_iff_toInt_lt.mp q; omega
  rw [if_neg q] at e
  exact ⟨Or.inl ⟨g, e⟩, Or.inl ⟨g, rfl⟩⟩
theorem z_so2 {t m a : Int32} (h : m < t) (e : a = if m < t then m else t) : z_so t m 1 a := by
  have g := Int32.lt_iff_toInt_lt.mp h
  rw [if_pos h] at e
  exact ⟨Or.inr ⟨g, e⟩, Or.inr ⟨g, rfl⟩⟩
def z_wdj (cds : List Int64) (c : Int64) (i : Int32) : Prop := 0 ≤ i.toInt ∧ ∀ j : Nat, j < i.toInt.toNat → ¬ c = cds.getD j 0
theorem z_wj0 {c : Int64} : z_wdj z_cds c 0 := ⟨by decide, fun j h => absurd h (Nat.not_lt_zero j)⟩
theorem z_wjS {c y : Int64} {i i' : Int32} {w : Nat} (ti : i'.toInt = i.toInt + 1) (hI : z_wdj z_cds c i) (hn : ¬ y = c) (ey : y = z_cds.getD w 0) (ew : w = i.toNatClampNeg) : z_wdj z_cds c i' := by
  refine ⟨by have := hI.1; omega, fun j hj => ?_⟩
  have h0 := hI.1
  rcases Nat.lt_or_ge j i.toInt.toNat with q | q
  · exact hI.2 j q
  · have e : j = w := by
      have ew : w = i.toInt.toNat := ew
      omega
    rw [e, ← ey]
    exact fun q => hn q.symm
theorem z_cdsD : ∀ i : Nat, i < 22 → ∀ j : Nat, j < 22 → z_cds.getD i 0 = z_cds.getD j 0 → i = j := by decide
theorem z_wiF {c y : Int64} {i : Int32} {w u : Nat} (ew : w = i.toNatClampNeg) (hI : z_wdj z_cds c i) (hi : z_in 0 21 i) (ey : y = z_cds.getD u 0) (eu : u = i.toNatClampNeg) (hc : y = c) : z_wi z_cds c w := by
  have euw : u = w := eu.trans ew.symm
  rw [euw] at ey
  have ew : w = i.toInt.toNat := ew
  have h1 := hi.1
  have h2 := hi.2
  have e : c = z_cds.getD w 0 := hc.symm.trans ey
  rcases Nat.eq_zero_or_pos w with q | q
  · refine Or.inl ⟨q, fun j j1 j2 e2 => ?_⟩
    have := z_cdsD w (by omega) j j2 (e.symm.trans e2)
    omega
  · exact Or.inr ⟨q, by omega, e⟩
theorem z_wiN {c : Int64} {i : Int32} (hI : z_wdj z_cds c i) (hi : z_in 22 22 i) : z_wi z_cds c 0 := by
  have h1 := hi.1
  exact Or.inl ⟨rfl, fun j j1 j2 => hI.2 j (by omega)⟩
def z_le9 (a b : Int32) : Prop := a ≤ b
theorem z_le9I {a b : Int32} (h : a ≤ b) : z_le9 a b := h
def z_pe (r : Int32) (f : Nat → Int32) (n p : Int32) : Prop := (p.toInt < n.toInt ∧ r = z_o f p.toInt.toNat) ∨ (n.toInt ≤ p.toInt ∧ r = -1)
theorem z_peI {r x n p : Int32} {f : Nat → Int32} (hl : p < n) (er : r = x &&& 255) (ex : x = f p.toNatClampNeg) : z_pe r f n p := Or.inl ⟨Int32.lt_iff_toInt_lt.mp hl, z_ocI ex er⟩
theorem z_peN {n p : Int32} {f : Nat → Int32} (hl : n ≤ p) : z_pe (-1) f n p := Or.inr ⟨Int32.le_iff_toInt_le.mp hl, rfl⟩
theorem z_peT {r n p : Int32} {f : Nat → Int32} (h : z_pe r f n p) (hr : ¬ r = -1) : p.toInt < n.toInt ∧ r = z_o f p.toInt.toNat := h.elim id (fun q => absurd q.2 hr)
def z_skb (f : Nat → Int32) (n p : Int32) : Prop := p.toInt < n.toInt ∧ z_isB (z_o f p.toInt.toNat)
theorem z_sb1 {r n p : Int32} {f : Nat → Int32} (h : z_pe r f n p) (hr : r = 32) : z_skb f n p := by
  have q := z_peT h (by rw [hr]; decide)
  exact ⟨q.1, Or.inl (q.2.symm.trans hr)⟩
theorem z_sb2 {r n p : Int32} {f : Nat → Int32} (h : z_pe r f n p) (hr : r = 10) : z_skb f n p := by
  have q := z_peT h (by rw [hr]; decide)
  exact ⟨q.1, Or.inr (q.2.symm.trans hr)⟩
theorem z_skM {f : Nat → Int32} {n b p p' : Int32} (hI : z_sk f n b p) (tp : p'.toInt = p.toInt + 1) (hs : z_skb f n p) : z_sk f n b p' := by
  obtain ⟨h0, h1, h2⟩ := hI
  refine ⟨h0, by omega, fun j a c => ?_⟩
  rcases Nat.lt_or_ge j p.toInt.toNat with q | q
  · exact h2 j a q
  · have e : j = p.toInt.toNat := by omega
    rw [e]
    exact ⟨by have := hs.1; omega, hs.2⟩
theorem z_sxM {f : Nat → Int32} {n p r1 r2 : Int32} (h1 : z_pe r1 f n p) (n1 : ¬ r1 = 32) (h2 : z_pe r2 f n p) (n2 : ¬ r2 = 10) : z_skx f n p := by
  intro q
  rcases h1 with ⟨a1, e1⟩ | ⟨a1, -⟩
  · rcases h2 with ⟨a2, e2⟩ | ⟨a2, -⟩
    · rw [e1] at n1
      rw [e2] at n2
      exact q.2.elim n1 n2
    · omega
  · have := q.1
    omega
def z_nl (n m p : Int32) : Prop := ¬ (m.toInt < n.toInt ∧ m.toInt ≤ p.toInt)
theorem z_nl1 {n m p : Int32} (h : n ≤ m) : z_nl n m p := fun q => by
  have := Int32.le_iff_toInt_le.mp h
  have := q.1
  omega
theorem z_nl2 {n m p : Int32} (h : p < m) : z_nl n m p := fun q => by
  have := Int32.lt_iff_toInt_lt.mp h
  have := q.2
  omega
theorem z_skL {f : Nat → Int32} {n b p : Int32} (hI : z_sk f n b p) (hb : z_le9 b n) : p.toInt ≤ n.toInt := by
  obtain ⟨h0, h1, h2⟩ := hI
  have hb := Int32.le_iff_toInt_le.mp hb
  rcases Int.lt_or_le b.toInt p.toInt with q | q
  · have := (h2 (p.toInt.toNat - 1) (by omega) (by omega)).1
    omega
  · omega
def z_mt (f : Nat → Int32) (n m k a v : Int32) (w : Int64) (p : Int32) : Prop :=
  0 ≤ a.toInt ∧ 0 ≤ p.toInt ∧ p.toInt ≤ n.toInt ∧ ((z_stp n.toInt.toNat m.toInt.toNat a.toInt.toNat ∧ ((n.toInt ≤ m.toInt ∧ k = 0) ∨ (m.toInt < n.toInt ∧ k = 4))) ∨
  (¬ z_stp n.toInt.toNat m.toInt.toNat a.toInt.toNat ∧ z_Tb f n.toInt.toNat a.toInt.toNat p.toInt.toNat ∧
    ((k = 3 ∧ z_Ts f n.toInt.toNat m.toInt.toNat a.toInt.toNat v) ∨ (k = 2 ∧ z_Tn f n.toInt.toNat m.toInt.toNat a.toInt.toNat v) ∨ (k = 1 ∧ ∃ c : Int64, z_Tl f n.toInt.toNat m.toInt.toNat a.toInt.toNat c ∧ z_nw w c) ∨
     (k = 4 ∧ (∀ x : Int32, ¬ z_Ts f n.toInt.toNat m.toInt.toNat a.toInt.toNat x) ∧ (∀ x : Int32, ¬ z_Tn f n.toInt.toNat m.toInt.toNat a.toInt.toNat x) ∧ ∀ x : Int64, ¬ z_Tl f n.toInt.toNat m.toInt.toNat a.toInt.toNat x))))
theorem z_TxM1 {f : Nat → Int32} {n m b p : Int32} (hI : z_sk f n b p) (hx : z_skx f n p) (h : m < n) (h' : m ≤ p) (hm : z_in 0 940 m) : z_TX f n m b m := by
  obtain ⟨h0, h1, h2⟩ := hI
  have g := Int32.lt_iff_toInt_lt.mp h
  have g' := Int32.le_iff_toInt_le.mp h'
  have m0 := hm.1
  exact ⟨p.toInt.toNat, by omega, h2, hx, Or.inr ⟨fun q => by have := q.2; omega, by omega⟩⟩
theorem z_mtM1 {f : Nat → Int32} {n m b p v : Int32} {w : Int64} (hI : z_sk f n b p) (hb : z_le9 b n) (h : m < n) (h' : m ≤ p) (hm : z_in 0 940 m) : z_mt f n m 4 m v w p := by
  have g := Int32.lt_iff_toInt_lt.mp h
  have g' := Int32.le_iff_toInt_le.mp h'
  have m0 := hm.1
  exact ⟨m0, by omega, z_skL hI hb, Or.inl ⟨fun q => by have := q.2; omega, Or.inr ⟨g, rfl⟩⟩⟩
theorem z_TxM2 {f : Nat → Int32} {n m b p c : Int32} (hI : z_sk f n b p) (hx : z_skx f n p) (hb : z_le9 b n) (hl : z_nl n m p) (hc : z_pe c f n p) (c1 : z_in (-1) (-1) c) (hm : z_in 0 940 m) : z_TX f n m b p := by
  have c0 := c1.2
  have hp := z_skL hI hb
  obtain ⟨h0, h1, h2⟩ := hI
  have m0 := hm.1
  have hn : n.toInt ≤ p.toInt := by
    rcases hc with ⟨q, e⟩ | ⟨q, -⟩
    · exfalso
      have e2 : (z_o f p.toInt.toNat).toInt = c.toInt := by rw [e]
      have := z_o0 f p.toInt.toNat
      omega
    · exact q
  have hnm : n.toInt ≤ m.toInt := by
    rcases Int.lt_or_le m.toInt n.toInt with q | q
    · exact absurd ⟨q, by omega⟩ hl
    · exact q
  exact ⟨p.toInt.toNat, by omega, h2, hx, Or.inr ⟨fun q => by have := q.1; omega, by omega⟩⟩
theorem z_mtM2 {f : Nat → Int32} {n m b p c v : Int32} {w : Int64} (hI : z_sk f n b p) (hb : z_le9 b n) (hl : z_nl n m p) (hc : z_pe c f n p) (c1 : z_in (-1) (-1) c) : z_mt f n m 0 p v w p := by
  have c0 := c1.2
  have hp := z_skL hI hb
  obtain ⟨h0, h1, h2⟩ := hI
  have hn : n.toInt ≤ p.toInt := by
    rcases hc with ⟨q, e⟩ | ⟨q, -⟩
    · exfalso
      have e2 : (z_o f p.toInt.toNat).toInt = c.toInt := by rw [e]
      have := z_o0 f p.toInt.toNat
      omega
    · exact q
  have hnm : n.toInt ≤ m.toInt := by
    rcases Int.lt_or_le m.toInt n.toInt with q | q
    · exact absurd ⟨q, by omega⟩ hl
    · exact q
  exact ⟨by omega, by omega, hp, Or.inl ⟨fun q => by have := q.1; omega, Or.inl ⟨hnm, rfl⟩⟩⟩
theorem z_inM {f : Nat → Int32} {n m b p c : Int32} (hI : z_sk f n b p) (hl : z_nl n m p) (hc : z_pe c f n p) (c0 : 0 ≤ c.toInt) (hm : z_in 0 940 m) : p.toInt < n.toInt ∧ c = z_o f p.toInt.toNat ∧ ¬ z_stp n.toInt.toNat m.toInt.toNat p.toInt.toNat := by
  obtain ⟨h0, h1, h2⟩ := hI
  have q := z_peT hc (fun e => by rw [e] at c0; exact absurd c0 (by decide))
  have m0 := hm.1
  refine ⟨q.1, q.2, fun s => s ⟨by omega, ?_⟩⟩
  rcases Int.lt_or_le p.toInt m.toInt with q3 | q3
  · omega
  · exact absurd ⟨by omega, q3⟩ hl
theorem z_TxM3 {f : Nat → Int32} {n m b p c : Int32} (hI : z_sk f n b p) (hx : z_skx f n p) (hl : z_nl n m p) (hc : z_pe c f n p) (c0 : z_in 0 255 c) (hm : z_in 0 940 m) : z_TX f n m b p := by
  have q := z_inM hI hl hc c0.1 hm
  obtain ⟨h0, h1, h2⟩ := hI
  exact ⟨p.toInt.toNat, by omega, h2, hx, Or.inl ⟨q.2.2, rfl⟩⟩
def z_s4 (k c : Int32) : Prop := (k = 3 ∧ z_sgn c) ∨ (k = 4 ∧ ¬ z_sgn c)
theorem z_s41 {c : Int32} (h : c = 59) : z_s4 3 c := Or.inl ⟨rfl, Or.inl h⟩
theorem z_s42 {c : Int32} (h : c = 40) : z_s4 3 c := Or.inl ⟨rfl, Or.inr (Or.inr (Or.inr (Or.inr (Or.inl h))))⟩
theorem z_s43 {c : Int32} (h : c = 41) : z_s4 3 c := Or.inl ⟨rfl, Or.inr (Or.inr (Or.inr (Or.inr (Or.inr h))))⟩
theorem z_s44 {c : Int32} (h : z_in 60 62 c) : z_s4 3 c := by
  refine Or.inl ⟨rfl, ?_⟩
  have h1 := h.1
  have h2 := h.2
  have e : c.toInt = 60 ∨ c.toInt = 61 ∨ c.toInt = 62 := by omega
  rcases e with e | e | e
  · exact Or.inr (Or.inl (Int32.toInt_inj.mp (e.trans (by decide))))
  · exact Or.inr (Or.inr (Or.inl (Int32.toInt_inj.mp (e.trans (by decide)))))
  · exact Or.inr (Or.inr (Or.inr (Or.inl (Int32.toInt_inj.mp (e.trans (by decide))))))
theorem z_s4n {c : Int32} (h1 : ¬ c = 59) (h2 : ¬ c = 40) (h3 : ¬ c = 41) (h : ¬ z_in 60 62 c) : ¬ z_sgn c := by
  intro q
  rcases q with q | q | q | q | q | q
  · exact h1 q
  · exact h (by rw [q]; exact ⟨by decide, by decide⟩)
  · exact h (by rw [q]; exact ⟨by decide, by decide⟩)
  · exact h (by rw [q]; exact ⟨by decide, by decide⟩)
  · exact h2 q
  · exact h3 q
theorem z_s45 {c : Int32} {a : Int} (h1 : ¬ c = 59) (h2 : ¬ c = 40) (h3 : ¬ c = 41) (h : z_in a 59 c) : z_s4 4 c := Or.inr ⟨rfl, z_s4n h1 h2 h3 (fun q => by have := q.1; have := h.2; omega)⟩
theorem z_s46 {c : Int32} {a : Int} (h1 : ¬ c = 59) (h2 : ¬ c = 40) (h3 : ¬ c = 41) (h : z_in 63 a c) : z_s4 4 c := Or.inr ⟨rfl, z_s4n h1 h2 h3 (fun q => by have := q.2; have := h.1; omega)⟩
theorem z_mtM3 {f : Nat → Int32} {n m b p p' c k q1 q2 : Int32} {w : Int64} (hI : z_sk f n b p) (hl : z_nl n m p) (hc : z_pe c f n p) (c0 : z_in 0 255 c) (hm : z_in 0 940 m) (hq1 : z_ql q1 c) (e1 : q1 = 0) (hq2 : z_qd q2 c) (e2 : q2 = 0) (hk : z_s4 k c) (tp : p'.toInt = p.toInt + 1) : z_mt f n m k p c w p' := by
  have q := z_inM hI hl hc c0.1 hm
  obtain ⟨h0, h1, h2⟩ := hI
  have na : ¬ z_alnum (z_o f p.toInt.toNat) := by
    rw [← q.2.1]
    exact fun s => s.elim (z_qF hq1 e1) (z_qF hq2 e2)
  have nf : ∀ {E : Nat}, z_run f n.toInt.toNat p.toInt.toNat E → ¬ p.toInt.toNat < E := fun r q => na (r.2.1 p.toInt.toNat (Nat.le_refl _) q).2
  have q1 := q.1
  refine ⟨by omega, by omega, by omega, Or.inr ⟨q.2.2, Or.inr ⟨na, by omega⟩, ?_⟩⟩
  rcases hk with ⟨k1, k2⟩ | ⟨k1, k2⟩
  · exact Or.inl ⟨k1, q.2.2, q.2.1.symm, k2⟩
  · refine Or.inr (Or.inr (Or.inr ⟨k1, fun x s => ?_, fun x s => ?_, fun x s => ?_⟩))
    · obtain ⟨-, e, s⟩ := s
      rw [← e, ← q.2.1] at s
      exact k2 s
    · obtain ⟨-, E, r, l, -⟩ := s
      exact nf r l
    · obtain ⟨-, E, r, l, -⟩ := s
      exact nf r l
def z_pm (f : Nat → Int32) (n p : Int32) : Prop := p.toInt < n.toInt ∧ z_alnum (z_o f p.toInt.toNat)
theorem z_pmL {f : Nat → Int32} {n p r q : Int32} (hc : z_pe r f n p) (hq : z_ql q r) (e : q = 1) : z_pm f n p := by
  have l := z_qT hq e
  have s := z_peT hc (fun x => by have := l.1; rw [x] at this; exact absurd this (by decide))
  rw [s.2] at l
  exact ⟨s.1, Or.inl l⟩
theorem z_pmD {f : Nat → Int32} {n p r q : Int32} (hc : z_pe r f n p) (hq : z_qd q r) (e : q = 1) : z_pm f n p := by
  have l := z_qT hq e
  have s := z_peT hc (fun x => by have := l.1; rw [x] at this; exact absurd this (by decide))
  rw [s.2] at l
  exact ⟨s.1, Or.inr l⟩
theorem z_pxM {f : Nat → Int32} {n p r1 r2 q1 q2 : Int32} (h0 : z_in 0 940 p) (h1 : z_pe r1 f n p) (hq1 : z_ql q1 r1) (e1 : q1 = 0) (h2 : z_pe r2 f n p) (hq2 : z_qd q2 r2) (e2 : q2 = 0) : z_px f n p := by
  intro s
  have p0 := h0.1
  have s1 := s.1
  rcases h1 with ⟨a1, b1⟩ | ⟨a1, -⟩
  · rcases h2 with ⟨a2, b2⟩ | ⟨a2, -⟩
    · have x1 := z_qF hq1 e1
      have x2 := z_qF hq2 e2
      rw [b1] at x1
      rw [b2] at x2
      exact s.2.elim x1 x2
    · omega
  · omega
def z_as (f : Nat → Int32) (A n : Nat) (sm : Int32) : Prop := ∀ j : Nat, j < n → (z_isL (z_o f (A + j)) ↔ sm = 1)
def z_mr (f : Nat → Int32) (n A sm al sp : Int32) (w : Int64) (nu p : Int32) : Prop := 0 ≤ A.toInt ∧ 0 ≤ sp.toInt ∧ p.toInt = A.toInt + sp.toInt ∧ (sm = 0 ∨ sm = 1) ∧ (∀ j : Nat, A.toInt.toNat ≤ j → j < p.toInt.toNat → j < n.toInt.toNat ∧ z_alnum (z_o f j)) ∧
  ((al = 1 ∧ z_as f A.toInt.toNat sp.toInt.toNat sm) ∨ (al = 0 ∧ ¬ z_as f A.toInt.toNat sp.toInt.toNat sm)) ∧ w = z_w8 f A.toInt.toNat (min sp.toInt.toNat 7) ∧ nu = z_n10 f A.toInt.toNat (min sp.toInt.toNat 3)
theorem z_mr0 {f : Nat → Int32} {n p sm c : Int32} (h0 : z_in 0 940 p) (hq : z_ql sm c) : z_mr f n p sm 1 0 0 0 p := by
  have p0 := h0.1
  have e0 : (0 : Int32).toInt = 0 := rfl
  refine ⟨p0, by decide, by omega, hq.elim (fun q => Or.inr q.1) (fun q => Or.inl q.1), fun j a b => absurd b (by omega), Or.inl ⟨rfl, fun j hj => absurd hj ?_⟩, rfl, rfl⟩
  rw [e0]
  exact Nat.not_lt_zero j
def z_ma (al2 al sm : Int32) (f : Nat → Int32) (p : Int32) : Prop := (al2 = 1 ∧ al = 1 ∧ (z_isL (z_o f p.toInt.toNat) ↔ sm = 1)) ∨ (al2 = 0 ∧ ¬ (al = 1 ∧ (z_isL (z_o f p.toInt.toNat) ↔ sm = 1)))
theorem z_ma0 {al sm p : Int32} {f : Nat → Int32} (h : al = 0) : z_ma 0 al sm f p := Or.inr ⟨rfl, fun q => by rw [h] at q; exact absurd q.1 (by decide)⟩
theorem z_maq {f : Nat → Int32} {n p r q : Int32} (hm : z_pm f n p) (hc : z_pe r f n p) (hq : z_ql q r) : (q = 1 ∧ z_isL (z_o f p.toInt.toNat)) ∨ (q = 0 ∧ ¬ z_isL (z_o f p.toInt.toNat)) := by
  have s : r = z_o f p.toInt.toNat := hc.elim (fun q => q.2) (fun q => by have := hm.1; have := q.1; omega)
  rw [← s]
  exact hq
theorem z_ma1 {al sm p n r q A sp nu : Int32} {w : Int64} {f : Nat → Int32} (h : al = 1) (_ : z_mr f n A sm al sp w nu p) (hm : z_pm f n p) (hc : z_pe r f n p) (hq : z_ql q r) (e : q = sm) : z_ma 1 al sm f p := by
  refine Or.inl ⟨rfl, h, ?_⟩
  rcases z_maq hm hc hq with ⟨a, b⟩ | ⟨a, b⟩
  · exact ⟨fun _ => e.symm.trans a, fun _ => b⟩
  · exact ⟨fun x => absurd x b, fun x => by rw [← e, a] at x; exact absurd x (by decide)⟩
theorem z_ma2 {al sm p n r q A sp nu : Int32} {w : Int64} {f : Nat → Int32} (hI : z_mr f n A sm al sp w nu p) (hm : z_pm f n p) (hc : z_pe r f n p) (hq : z_ql q r) (e : ¬ q = sm) : z_ma 0 al sm f p := by
  have hs := hI.2.2.2.1
  refine Or.inr ⟨rfl, fun x => ?_⟩
  rcases z_maq hm hc hq with ⟨a, b⟩ | ⟨a, b⟩
  · exact e (a.trans (x.2.mp b).symm)
  · rcases hs with hs | hs
    · exact e (a.trans hs.symm)
    · exact b (x.2.mpr hs)
def z_mw (w2 w : Int64) (sp : Int32) (f : Nat → Int32) (p : Int32) : Prop := (sp.toInt < 7 ∧ w2 = z_w1w w (z_o f p.toInt.toNat)) ∨ (7 ≤ sp.toInt ∧ w2 = w)
theorem z_mw1 {w2 w x y : Int64} {sp n p r : Int32} {f : Nat → Int32} (h : z_in 0 6 sp) (hm : z_pm f n p) (e1 : w2 = x ||| y) (e2 : x = w <<< ((8 : Int32).toInt64 &&& 63)) (e3 : y = r.toInt64) (hc : z_pe r f n p) : z_mw w2 w sp f p := by
  have s : r = z_o f p.toInt.toNat := hc.elim (fun q => q.2) (fun q => by have := hm.1; have := q.1; omega)
  rw [s] at e3
  rw [e2, e3] at e1
  exact Or.inl ⟨by have := h.2; omega, e1⟩
theorem z_mw2 {w : Int64} {sp p : Int32} {f : Nat → Int32} (h : z_in 7 940 sp) : z_mw w w sp f p := Or.inr ⟨h.1, rfl⟩
def z_mn (v2 v sp : Int32) (f : Nat → Int32) (p : Int32) : Prop := (sp.toInt < 3 ∧ v2 = v * 10 + (z_o f p.toInt.toNat - 48)) ∨ (3 ≤ sp.toInt ∧ v2 = v)
theorem z_mn1 {v2 v x y sp n p r : Int32} {f : Nat → Int32} (h : z_in 0 2 sp) (hm : z_pm f n p) (e1 : v2 = y - 48) (e2 : y = x + r) (e3 : x = 10 * v) (hc : z_pe r f n p) : z_mn v2 v sp f p := by
  have s : r = z_o f p.toInt.toNat := hc.elim (fun q => q.2) (fun q => by have := hm.1; have := q.1; omega)
  refine Or.inl ⟨by have := h.2; omega, ?_⟩
  rw [e1, e2, e3, s, Int32.mul_comm v 10, Int32.sub_eq_add_neg, Int32.sub_eq_add_neg, Int32.add_assoc]
theorem z_mn2 {v sp p : Int32} {f : Nat → Int32} (h : z_in 3 940 sp) : z_mn v v sp f p := Or.inr ⟨h.1, rfl⟩
theorem z_mrS {f : Nat → Int32} {n A sm al al2 sp sp2 nu nu2 p p2 : Int32} {w w2 : Int64} (hI : z_mr f n A sm al sp w nu p) (ts : sp2.toInt = sp.toInt + 1) (tp : p2.toInt = p.toInt + 1) (hm : z_pm f n p) (ha : z_ma al2 al sm f p) (hw : z_mw w2 w sp f p) (hn : z_mn nu2 nu sp f p) : z_mr f n A sm al2 sp2 w2 nu2 p2 := by
  obtain ⟨h0, h1, h2, h3, h4, h5, h6, h7⟩ := hI
  have es : sp2.toInt.toNat = sp.toInt.toNat + 1 := by omega
  have ep : A.toInt.toNat + sp.toInt.toNat = p.toInt.toNat := by omega
  have st : z_as f A.toInt.toNat (sp.toInt.toNat + 1) sm ↔ z_as f A.toInt.toNat sp.toInt.toNat sm ∧ (z_isL (z_o f p.toInt.toNat) ↔ sm = 1) := by
    refine ⟨fun h => ⟨fun j hj => h j (by omega), ep ▸ h sp.toInt.toNat (by omega)⟩, fun h j hj => ?_⟩
    rcases Nat.lt_or_ge j sp.toInt.toNat with q | q
    · exact h.1 j q
    · have e : j = sp.toInt.toNat := by omega
      rw [e, ep]
      exact h.2
  refine ⟨h0, by omega, by omega, h3, fun j a b => ?_, ?_, ?_, ?_⟩
  · rcases Nat.lt_or_ge j p.toInt.toNat with q | q
    · exact h4 j a q
    · have e : j = p.toInt.toNat := by omega
      rw [e]
      exact ⟨by have := hm.1; omega, hm.2⟩
  · rw [es, st]
    rcases ha with ⟨a, b, c⟩ | ⟨a, b⟩
    · rcases h5 with ⟨x, y⟩ | ⟨x, y⟩
      · exact Or.inl ⟨a, y, c⟩
      · rw [b] at x
        exact absurd x (by decide)
    · refine Or.inr ⟨a, fun q => ?_⟩
      rcases h5 with ⟨x, y⟩ | ⟨x, y⟩
      · exact b ⟨x, q.2⟩
      · exact y q.1
  · rw [es]
    rcases hw with ⟨a, b⟩ | ⟨a, b⟩
    · have e1 : min (sp.toInt.toNat + 1) 7 = sp.toInt.toNat + 1 := by omega
      have e2 : min sp.toInt.toNat 7 = sp.toInt.toNat := by omega
      rw [e2] at h6
      rw [e1]
      show w2 = z_w1w (z_w8 f A.toInt.toNat sp.toInt.toNat) (z_o f (A.toInt.toNat + sp.toInt.toNat))
      rw [ep, ← h6]
      exact b
    · have e1 : min (sp.toInt.toNat + 1) 7 = min sp.toInt.toNat 7 := by omega
      rw [e1]
      exact b.trans h6
  · rw [es]
    rcases hn with ⟨a, b⟩ | ⟨a, b⟩
    · have e1 : min (sp.toInt.toNat + 1) 3 = sp.toInt.toNat + 1 := by omega
      have e2 : min sp.toInt.toNat 3 = sp.toInt.toNat := by omega
      rw [e2] at h7
      rw [e1]
      show nu2 = z_n10 f A.toInt.toNat sp.toInt.toNat * 10 + (z_o f (A.toInt.toNat + sp.toInt.toNat) - 48)
      rw [ep, ← h7]
      exact b
    · have e1 : min (sp.toInt.toNat + 1) 3 = min sp.toInt.toNat 3 := by omega
      rw [e1]
      exact b.trans h7
theorem z_mrB {f : Nat → Int32} {n A sm al sp p nu : Int32} {w : Int64} (hI : z_mr f n A sm al sp w nu p) (hp : z_in 0 940 p) : z_in 0 940 sp := ⟨hI.2.1, by have h1 := hI.1; have h2 := hI.2.2.1; have h3 := hp.2; omega⟩
def z_mk (k al sm sp : Int32) : Prop := (k = 1 ∧ al = 1 ∧ sm = 1 ∧ sp.toInt ≤ 7) ∨ (k = 2 ∧ al = 1 ∧ ¬ sm = 1 ∧ sp.toInt ≤ 3) ∨ (k = 4 ∧ ¬ (al = 1 ∧ sm = 1 ∧ sp.toInt ≤ 7) ∧ ¬ (al = 1 ∧ ¬ sm = 1 ∧ sp.toInt ≤ 3))
theorem z_mk0 {al sm sp : Int32} (h : al = 0) : z_mk 4 al sm sp := Or.inr (Or.inr ⟨rfl, fun q => by rw [h] at q; exact absurd q.1 (by decide), fun q => by rw [h] at q; exact absurd q.1 (by decide)⟩)
theorem z_mk1 {al sm sp : Int32} {a : Int} (h : al = 1) (hs : sm = 1) (hp : z_in a 7 sp) : z_mk 1 al sm sp := Or.inl ⟨rfl, h, hs, hp.2⟩
theorem z_mk2 {al sm sp : Int32} {a : Int} (h : al = 1) (hs : sm = 0) (hp : z_in a 3 sp) : z_mk 2 al sm sp := Or.inr (Or.inl ⟨rfl, h, by rw [hs]; decide, hp.2⟩)
theorem z_mk3 {al sm sp : Int32} {b : Int} (hs : sm = 1) (hp : z_in 8 b sp) : z_mk 4 al sm sp := Or.inr (Or.inr ⟨rfl, fun q => by have := q.2.2; have := hp.1; omega, fun q => q.2.1 hs⟩)
theorem z_mk4 {al sm sp : Int32} {b : Int} (hs : sm = 0) (hp : z_in 4 b sp) : z_mk 4 al sm sp := Or.inr (Or.inr ⟨rfl, fun q => by rw [hs] at q; exact absurd q.2.1 (by decide), fun q => by have := q.2.2; have := hp.1; omega⟩)
theorem z_mtM4 {f : Nat → Int32} {n m b A p c k al sm sp nu : Int32} {w : Int64} (hs : z_sk f n b A) (hl : z_nl n m A) (hc : z_pe c f n A) (c0 : z_in 0 255 c) (hm : z_in 0 940 m) (ha : z_pm f n A) (hq : z_ql sm c) (hI : z_mr f n A sm al sp w nu p) (hx : z_px f n p) (hk : z_mk k al sm sp) : z_mt f n m k A nu w p := by
  have q := z_inM hs hl hc c0.1 hm
  obtain ⟨h0, h1, h2, h3, h4, h5, h6, h7⟩ := hI
  have fst : z_isL (z_o f A.toInt.toNat) ↔ sm = 1 := by
    rw [← q.2.1]
    rcases hq with ⟨a, b⟩ | ⟨a, b⟩
    · exact ⟨fun _ => a, fun _ => b⟩
    · exact ⟨fun x => absurd x b, fun x => by rw [a] at x; exact absurd x (by decide)⟩
  have pos : 0 < sp.toInt := by
    rcases Int.lt_or_le 0 sp.toInt with q9 | q9
    · exact q9
    · have e : p.toInt.toNat = A.toInt.toNat := by omega
      unfold z_px at hx
      rw [e] at hx
      exact absurd ⟨by have := ha.1; omega, ha.2⟩ hx
  have lp : p.toInt ≤ n.toInt := by
    have := (h4 (p.toInt.toNat - 1) (by omega) (by omega)).1
    omega
  have run : z_run f n.toInt.toNat A.toInt.toNat p.toInt.toNat := ⟨by omega, h4, hx⟩
  have en : p.toInt.toNat - A.toInt.toNat = sp.toInt.toNat := by omega
  have asL : sm = 1 → (z_as f A.toInt.toNat sp.toInt.toNat sm ↔ z_Ls f A.toInt.toNat sp.toInt.toNat) := fun e => ⟨fun h j hj => (h j hj).mpr e, fun h j hj => ⟨fun _ => e, fun _ => h j hj⟩⟩
  have asD : ¬ sm = 1 → (z_as f A.toInt.toNat sp.toInt.toNat sm ↔ z_Ds f A.toInt.toNat sp.toInt.toNat) := fun e => ⟨fun h j hj => by
    have x := (h4 (A.toInt.toNat + j) (by omega) (by omega)).2
    exact x.elim (fun y => absurd ((h j hj).mp y) e) id, fun h j hj => ⟨fun y => (z_isLD y (h j hj)).elim, fun y => absurd y e⟩⟩
  refine ⟨h0, by omega, lp, Or.inr ⟨q.2.2, Or.inl ⟨ha.2, run⟩, ?_⟩⟩
  rcases hk with ⟨k1, k2, k3, k4⟩ | ⟨k1, k2, k3, k4⟩ | ⟨k1, k2, k3⟩
  · have L : z_Ls f A.toInt.toNat sp.toInt.toNat := by
      rcases h5 with ⟨-, y⟩ | ⟨x, -⟩
      · exact (asL k3).mp y
      · rw [k2] at x
        exact absurd x (by decide)
    have e7 : min sp.toInt.toNat 7 = sp.toInt.toNat := by omega
    rw [e7] at h6
    exact Or.inr (Or.inr (Or.inl ⟨k1, z_c5 f A.toInt.toNat sp.toInt.toNat, ⟨q.2.2, p.toInt.toNat, run, by omega, by omega, by rw [en]; exact L, by rw [en]⟩, f, A.toInt.toNat, sp.toInt.toNat, by omega, L, h6, rfl⟩))
  · have L : z_Ds f A.toInt.toNat sp.toInt.toNat := by
      rcases h5 with ⟨-, y⟩ | ⟨x, -⟩
      · exact (asD k3).mp y
      · rw [k2] at x
        exact absurd x (by decide)
    have e3 : min sp.toInt.toNat 3 = sp.toInt.toNat := by omega
    rw [e3] at h7
    exact Or.inr (Or.inl ⟨k1, q.2.2, p.toInt.toNat, run, by omega, by omega, by rw [en]; exact L, by rw [en]; exact h7⟩)
  · have al1 : z_as f A.toInt.toNat sp.toInt.toNat sm → al = 1 := fun y => h5.elim (fun x => x.1) (fun x => absurd y x.2)
    refine Or.inr (Or.inr (Or.inr ⟨k1, fun x s => ?_, fun x s => ?_, fun x s => ?_⟩))
    · obtain ⟨-, e, s⟩ := s
      rw [← e] at s
      exact z_sgnN s ha.2
    · obtain ⟨-, E, r, l, l3, d, -⟩ := s
      have e := z_runE r run
      rw [e, en] at l3 d
      have ns : ¬ sm = 1 := fun y => z_isLD (fst.mpr y) (z_Ds0 d (by omega))
      exact k3 ⟨al1 ((asD ns).mpr d), ns, by omega⟩
    · obtain ⟨-, E, r, l, l3, d, -⟩ := s
      have e := z_runE r run
      rw [e, en] at l3 d
      have ys : sm = 1 := fst.mp (z_Ls0 d (by omega))
      exact k2 ⟨al1 ((asL ys).mpr d), ys, by omega⟩
noncomputable def z_if {α : Type} (P : Prop) (x y : α) : α := @ite α P (Classical.propDecidable P) x y
theorem z_ifT {α : Type} {P : Prop} {x y : α} (h : P) : z_if P x y = x := @if_pos P (Classical.propDecidable P) h α x y
theorem z_ifF {α : Type} {P : Prop} {x y : α} (h : ¬ P) : z_if P x y = y := @if_neg P (Classical.propDecidable P) h α x y
def z_bd {E α β : Type} (x : E ⊕ α) (k : α → E ⊕ β) : E ⊕ β := match x with
  | .inl e => .inl e
  | .inr y => k y
theorem z_bdL {E α β : Type} {x : E ⊕ α} {k : α → E ⊕ β} {e : E} (h : x = .inl e) : z_bd x k = .inl e := by rw [h]; rfl
theorem z_bdR {E α β : Type} {x : E ⊕ α} {k : α → E ⊕ β} {y : α} (h : x = .inr y) : z_bd x k = k y := by rw [h]; rfl
def z_SA (f : Nat → Int32) (t m a a' : Int32) : Prop := 0 ≤ a'.toInt ∧ z_Ta f t.toInt.toNat m.toInt.toNat a.toInt.toNat a'.toInt.toNat
noncomputable def z_nxt (f : Nat → Int32) (t m a : Int32) : Int32 := @Classical.epsilon Int32 ⟨0⟩ (fun a' => z_SA f t m a a')
theorem z_nxtE {f : Nat → Int32} {t m a a' : Int32} (h : z_SA f t m a a') : z_nxt f t m a = a' := by
  have q := @Classical.epsilon_spec_aux Int32 ⟨0⟩ (fun a' => z_SA f t m a a') ⟨a', h⟩
  have e := z_TaE q.2 h.2
  have q0 := q.1
  have h0 := h.1
  exact Int32.toInt_inj.mp (by unfold z_nxt; omega)
def z_NM (f : Nat → Int32) (t m a : Int32) (c : Int64) : Prop := z_Tl f t.toInt.toNat m.toInt.toNat a.toInt.toNat c ∧ ∀ i : Nat, 1 ≤ i → i < 22 → ¬ c = z_cds.getD i 0
def z_hN (f : Nat → Int32) (t m a : Int32) : Prop := ∃ c : Int64, z_NM f t m a c
noncomputable def z_nam (f : Nat → Int32) (t m a : Int32) : Int64 := @Classical.epsilon Int64 ⟨0⟩ (fun c => z_NM f t m a c)
theorem z_namE {f : Nat → Int32} {t m a : Int32} {c : Int64} (h : z_NM f t m a c) : z_nam f t m a = c := z_TlE (@Classical.epsilon_spec_aux Int64 ⟨0⟩ (fun c => z_NM f t m a c) ⟨c, h⟩).1 h.1
def z_TN (f : Nat → Int32) (t m a n : Int32) : Prop := z_Tn f t.toInt.toNat m.toInt.toNat a.toInt.toNat n
def z_hD (f : Nat → Int32) (t m a : Int32) : Prop := ∃ n : Int32, z_TN f t m a n
noncomputable def z_num (f : Nat → Int32) (t m a : Int32) : Int32 := @Classical.epsilon Int32 ⟨0⟩ (fun n => z_TN f t m a n)
theorem z_numE {f : Nat → Int32} {t m a n : Int32} (h : z_TN f t m a n) : z_num f t m a = n := z_TnE (@Classical.epsilon_spec_aux Int32 ⟨0⟩ (fun n => z_TN f t m a n) ⟨n, h⟩) h
def z_TS (f : Nat → Int32) (t m a x : Int32) : Prop := z_Ts f t.toInt.toNat m.toInt.toNat a.toInt.toNat x
def z_TE (t m a : Int32) : Prop := z_Te t.toInt.toNat m.toInt.toNat a.toInt.toNat
def z_TL (f : Nat → Int32) (t m a : Int32) (c : Int64) : Prop := z_Tl f t.toInt.toNat m.toInt.toNat a.toInt.toNat c
noncomputable def z_fSg (f : Nat → Int32) (t m x a : Int32) : (Int32 × Int32) ⊕ Int32 := z_if (z_TS f t m a x) (.inr (z_nxt f t m a)) (.inl (1, a))
noncomputable def z_fNu (f : Nat → Int32) (t m lo hi a : Int32) : (Int32 × Int32) ⊕ (Int32 × Int32) := z_if (z_hD f t m a) (z_if (lo.toInt ≤ (z_num f t m a).toInt ∧ (z_num f t m a).toInt ≤ hi.toInt) (.inr (z_num f t m a, z_nxt f t m a)) (.inl (2, a))) (.inl (1, a))
def z_fnd (P : List Int64) (c : Int64) (x : Int32) : Prop := (x = -1 ∧ ∀ k : Nat, ¬ P[k]? = some c) ∨ (∃ k : Nat, x.toInt = (k : Int) ∧ P[k]? = some c ∧ ∀ j : Nat, j < k → ¬ P[j]? = some c)
theorem z_fdE {P : List Int64} {c : Int64} {x x' : Int32} (h : z_fnd P c x) (h' : z_fnd P c x') : x = x' := by
  rcases h with ⟨a, b⟩ | ⟨k, a, b, d⟩ <;> rcases h' with ⟨a', b'⟩ | ⟨k', a', b', d'⟩
  · exact a.trans a'.symm
  · exact absurd b' (b k')
  · exact absurd b (b' k)
  · have e : k = k' := by
      rcases Nat.lt_trichotomy k k' with q | q | q
      · exact absurd b (d' k q)
      · exact q
      · exact absurd b' (d k' q)
    exact Int32.toInt_inj.mp (by omega)
noncomputable def z_fid (P : List Int64) (c : Int64) : Int32 := @Classical.epsilon Int32 ⟨0⟩ (fun x => z_fnd P c x)
theorem z_fidE {P : List Int64} {c : Int64} {x : Int32} (h : z_fnd P c x) : z_fid P c = x := z_fdE (@Classical.epsilon_spec_aux Int32 ⟨0⟩ (fun x => z_fnd P c x) ⟨x, h⟩) h
noncomputable def z_fKn (f : Nat → Int32) (t m : Int32) (P : List Int64) (a : Int32) : (Int32 × Int32) ⊕ Int32 := z_if (z_hN f t m a) (z_if (z_fid P (z_nam f t m a) = -1) (.inl (3, a)) (.inr (z_fid P (z_nam f t m a)))) (.inl (1, a))
noncomputable def z_fPk (f : Nat → Int32) (t m : Int32) (P : List Int64) (a : Int32) : (Int32 × Int32) ⊕ (Int32 × Int32) := z_bd (z_fKn f t m P a) (fun x => .inr (x, z_nxt f t m a))
noncomputable def z_fNw (f : Nat → Int32) (t m : Int32) (P Q U : List Int64) (a : Int32) : (Int32 × Int32) ⊕ (Int64 × Int32) := z_if (z_hN f t m a) (z_if (z_fid P (z_nam f t m a) = -1 ∧ z_fid Q (z_nam f t m a) = -1 ∧ z_fid U (z_nam f t m a) = -1) (.inr (z_nam f t m a, z_nxt f t m a)) (.inl (3, a))) (.inl (1, a))
abbrev z_TW : Type := List Int64 × List Int64 × List Int64 × Int32 × Int32
noncomputable def z_fPl (f : Nat → Int32) (t m : Int32) (S : z_TW) (a : Int32) : (Int32 × Int32) ⊕ (z_TW × Int32) := z_if (5 ≤ S.1.length) (.inl (4, a)) (z_bd (z_fNw f t m S.1 S.2.1 S.2.2.1 (z_nxt f t m a)) (fun q => .inr ((S.1 ++ [q.1], S.2), q.2)))
noncomputable def z_fPe (f : Nat → Int32) (t m : Int32) (S : z_TW) (a : Int32) : (Int32 × Int32) ⊕ (z_TW × Int32) := z_if (7 ≤ S.2.1.length) (.inl (4, a)) (z_bd (z_fNw f t m S.1 S.2.1 S.2.2.1 (z_nxt f t m a)) (fun q => z_bd (z_fPk f t m S.1 q.2) (fun h => .inr ((S.1, S.2.1 ++ [q.1], S.2.2), z_if (z_TL f t m h.2 (z_cds.getD 3 0)) (z_nxt f t m h.2) h.2))))
noncomputable def z_fSo (f : Nat → Int32) (t m : Int32) (S : z_TW) (a : Int32) : (Int32 × Int32) ⊕ (z_TW × Int32) := z_if (14 ≤ S.2.2.2.1.toInt) (.inl (4, a)) (z_bd (z_fPk f t m S.2.1 (z_nxt f t m a)) (fun p => z_bd (z_fNu f t m 1 199 p.2) (fun d => z_bd (z_fNu f t m 1 20 d.2) (fun n => .inr ((S.1, S.2.1, S.2.2.1, S.2.2.2.1 + 1, S.2.2.2.2), n.2)))))
noncomputable def z_fUm (f : Nat → Int32) (t m : Int32) (S : z_TW) (a : Int32) : (Int32 × Int32) ⊕ (z_TW × Int32) := z_if (6 ≤ S.2.2.1.length) (.inl (4, a)) (z_bd (z_fNw f t m S.1 S.2.1 S.2.2.1 (z_nxt f t m a)) (fun q => z_bd (z_fPk f t m S.1 q.2) (fun h => z_bd (z_fNu f t m 0 12 h.2) (fun n => .inr ((S.1, S.2.1, S.2.2.1 ++ [q.1], S.2.2.2), n.2)))))
noncomputable def z_fFa (f : Nat → Int32) (t m : Int32) (S : z_TW) (a : Int32) : (Int32 × Int32) ⊕ (z_TW × Int32) := z_if (¬ S.2.2.2.2 = 0) (.inl (3, a)) (z_bd (z_fNu f t m 1 5 (z_nxt f t m a)) (fun n => .inr ((S.1, S.2.1, S.2.2.1, S.2.2.2.1, n.1), n.2)))
noncomputable def z_fLi (f : Nat → Int32) (t m : Int32) (S : z_TW) (a : Int32) : (Int32 × Int32) ⊕ (z_TW × Int32) :=
  z_if (z_TL f t m a (z_cds.getD 1 0)) (z_fPl f t m S a) (z_if (z_TL f t m a (z_cds.getD 2 0)) (z_fPe f t m S a) (z_if (z_TL f t m a (z_cds.getD 4 0)) (z_fSo f t m S a) (z_if (z_TL f t m a (z_cds.getD 5 0)) (z_fUm f t m S a) (z_if (z_TL f t m a (z_cds.getD 6 0)) (z_fFa f t m S a) (.inl (1, a))))))
noncomputable def z_fLn (f : Nat → Int32) (t m : Int32) (S : z_TW) (a : Int32) : (Int32 × Int32) ⊕ (z_TW × Int32) := z_bd (z_fLi f t m S a) (fun q => z_bd (z_fSg f t m 59 q.2) (fun a' => .inr (q.1, a')))
def z_fLs (f : Nat → Int32) (t m : Int32) : Nat → z_TW → Int32 → z_TW → Int32 → Prop
  | 0, S, a, S', a' => S' = S ∧ a' = a
  | n + 1, S, a, S', a' => ∃ (S1 : z_TW) (a1 : Int32), z_fLs f t m n S a S1 a1 ∧ ¬ z_TE t m a1 ∧ z_fLn f t m S1 a1 = .inr (S', a')
def z_fTo (f : Nat → Int32) (t m : Int32) (S : z_TW) (a : Int32) (r : (Int32 × Int32) ⊕ (z_TW × Nat)) : Prop := ∃ (n : Nat) (S1 : z_TW) (a1 : Int32), z_fLs f t m n S a S1 a1 ∧ ((z_TE t m a1 ∧ r = .inr (S1, n)) ∨ (¬ z_TE t m a1 ∧ ∃ e : Int32 × Int32, z_fLn f t m S1 a1 = .inl e ∧ r = .inl e))
theorem z_fLsE {f : Nat → Int32} {t m : Int32} : ∀ (n : Nat) {S : z_TW} {a : Int32} {S1 S2 : z_TW} {a1 a2 : Int32}, z_fLs f t m n S a S1 a1 → z_fLs f t m n S a S2 a2 → S1 = S2 ∧ a1 = a2
  | 0, _, _, _, _, _, _, h, h' => ⟨h.1.trans h'.1.symm, h.2.trans h'.2.symm⟩
  | n + 1, _, _, _, _, _, _, h, h' => by
    obtain ⟨X, x, p, -, q⟩ := h
    obtain ⟨Y, y, p', -, q'⟩ := h'
    obtain ⟨e1, e2⟩ := z_fLsE n p p'
    subst e1 e2
    have e := Sum.inr.inj (q.symm.trans q')
    exact ⟨congrArg Prod.fst e, congrArg Prod.snd e⟩
theorem z_fLsL {f : Nat → Int32} {t m : Int32} : ∀ (n k : Nat) {S : z_TW} {a : Int32} {S1 S2 : z_TW} {a1 a2 : Int32}, z_fLs f t m n S a S1 a1 → z_fLs f t m (n + k + 1) S a S2 a2 → ¬ z_TE t m a1 ∧ ∃ q : z_TW × Int32, z_fLn f t m S1 a1 = .inr q
  | n, 0, _, _, _, _, _, _, h, h' => by
    obtain ⟨X, x, p, te, q⟩ := h'
    obtain ⟨e1, e2⟩ := z_fLsE n h p
    subst e1 e2
    exact ⟨te, _, q⟩
  | n, k + 1, _, _, _, _, _, _, h, h' => by
    obtain ⟨X, x, p, -, -⟩ := h'
    exact z_fLsL n k h p
theorem z_fToE {f : Nat → Int32} {t m : Int32} {S : z_TW} {a : Int32} {r r' : (Int32 × Int32) ⊕ (z_TW × Nat)} (h : z_fTo f t m S a r) (h' : z_fTo f t m S a r') : r = r' := by
  obtain ⟨n, S1, a1, p, q⟩ := h
  obtain ⟨k, S2, a2, p', q'⟩ := h'
  rcases Nat.lt_trichotomy n k with e | e | e
  · obtain ⟨d, rfl⟩ : ∃ d, k = n + d + 1 := ⟨k - n - 1, by omega⟩
    obtain ⟨x, y, z⟩ := z_fLsL n d p p'
    rcases q with ⟨q, -⟩ | ⟨-, v, w, -⟩
    · exact absurd q x
    · rw [w] at z
      cases z
  · subst e
    obtain ⟨e1, e2⟩ := z_fLsE n p p'
    subst e1 e2
    rcases q with ⟨q, e⟩ | ⟨q, v, w, e⟩ <;> rcases q' with ⟨q', e'⟩ | ⟨q', v', w', e'⟩
    · exact e.trans e'.symm
    · exact absurd q q'
    · exact absurd q' q
    · rw [w] at w'
      rw [e, e', Sum.inl.inj w']
  · obtain ⟨d, rfl⟩ : ∃ d, n = k + d + 1 := ⟨n - k - 1, by omega⟩
    obtain ⟨x, y, z⟩ := z_fLsL k d p' p
    rcases q' with ⟨q, -⟩ | ⟨-, v, w, -⟩
    · exact absurd q x
    · rw [w] at z
      cases z
def z_SE (r t m a : Int32) : Prop := (r = 1 ∧ z_TE t m a) ∨ (r = 0 ∧ ¬ z_TE t m a)
def z_SS (r : Int32) (f : Nat → Int32) (t m a x : Int32) : Prop := (r = 1 ∧ z_TS f t m a x) ∨ (r = 0 ∧ ¬ z_TS f t m a x)
def z_Nc (r : Int32) (f : Nat → Int32) (t m a : Int32) (c : Int64) : Prop := (r = 1 ∧ z_NM f t m a c) ∨ (r = 0 ∧ ¬ z_hN f t m a)
section
variable {cds : List Int64} {f : Nat → Int32} {t m k a v b : Int32} {c : Int64} {w : Nat}
theorem z_ctk0 (h : z_ctk cds f t m k a v c w b) (hk : k = 0) (ht : z_in 0 940 t) (hm : z_in 0 940 m) : z_TE t m a := by
  obtain ⟨-, h⟩ := h
  have t0 := ht.1
  have m0 := hm.1
  rcases h with ⟨s, -, q⟩ | ⟨-, -, -, q⟩
  · rcases q with ⟨p, -⟩ | ⟨-, p⟩
    · exact ⟨s, by omega⟩
    · rw [hk] at p
      exact absurd p (by decide)
  · rw [hk] at q
    rcases q with q | q | q | q <;> exact absurd q.1 (by decide)
theorem z_ctk0n (h : z_ctk cds f t m k a v c w b) (hk : ¬ k = 0) (ht : z_in 0 940 t) (hm : z_in 0 940 m) : ¬ z_TE t m a := by
  obtain ⟨-, h⟩ := h
  have t0 := ht.1
  have m0 := hm.1
  intro s
  rcases h with ⟨-, -, q⟩ | ⟨ns, -⟩
  · rcases q with ⟨-, p⟩ | ⟨p, -⟩
    · exact hk p
    · have := s.2
      omega
  · exact ns s.1
theorem z_ctk2 (h : z_ctk cds f t m k a v c w b) (hk : k = 2) : z_TS f t m a v := by
  obtain ⟨-, h⟩ := h
  rw [hk] at h
  rcases h with ⟨-, -, q⟩ | ⟨-, -, -, q⟩
  · rcases q with q | q <;> exact absurd q.2 (by decide)
  · rcases q with q | q | q | q
    · exact q.2.2
    · exact absurd q.1 (by decide)
    · exact absurd q.1 (by decide)
    · exact absurd q.1 (by decide)
theorem z_ctk2n (h : z_ctk cds f t m k a v c w b) (hk : ¬ k = 2) (x : Int32) : ¬ z_TS f t m a x := by
  obtain ⟨-, h⟩ := h
  intro s
  rcases h with ⟨st, -⟩ | ⟨-, -, -, q⟩
  · exact s.1 st
  · rcases q with q | q | q | q
    · exact hk q.1
    · exact z_TsNn s q.2.2
    · exact z_TsNl s q.2.1
    · exact q.2.2.1 x s
theorem z_ctk3 (h : z_ctk cds f t m k a v c w b) (hk : k = 3) : z_TN f t m a v := by
  obtain ⟨-, h⟩ := h
  rw [hk] at h
  rcases h with ⟨-, -, q⟩ | ⟨-, -, -, q⟩
  · rcases q with q | q <;> exact absurd q.2 (by decide)
  · rcases q with q | q | q | q
    · exact absurd q.1 (by decide)
    · exact q.2.2
    · exact absurd q.1 (by decide)
    · exact absurd q.1 (by decide)
theorem z_ctk3n (h : z_ctk cds f t m k a v c w b) (hk : ¬ k = 3) : ¬ z_hD f t m a := by
  obtain ⟨-, h⟩ := h
  rintro ⟨x, s⟩
  rcases h with ⟨st, -⟩ | ⟨-, -, -, q⟩
  · exact s.1 st
  · rcases q with q | q | q | q
    · exact z_TsNn q.2.2 s
    · exact hk q.1
    · exact z_TnNl s q.2.1
    · exact q.2.2.2.1 x s
theorem z_ctk4 (h : z_ctk cds f t m k a v c w b) (hk : k = 4) : z_TL f t m a c ∧ z_wi cds c w := by
  obtain ⟨-, h⟩ := h
  rw [hk] at h
  rcases h with ⟨-, -, q⟩ | ⟨-, -, -, q⟩
  · rcases q with q | q <;> exact absurd q.2 (by decide)
  · rcases q with q | q | q | q
    · exact absurd q.1 (by decide)
    · exact absurd q.1 (by decide)
    · exact q.2
    · exact absurd q.1 (by decide)
theorem z_ctk4n (h : z_ctk cds f t m k a v c w b) (hk : ¬ k = 4) (x : Int64) : ¬ z_TL f t m a x := by
  obtain ⟨-, h⟩ := h
  intro s
  rcases h with ⟨st, -⟩ | ⟨-, -, -, q⟩
  · exact s.1 st
  · rcases q with q | q | q | q
    · exact z_TsNl q.2.2 s
    · exact z_TnNl q.2.2 s
    · exact hk q.1
    · exact q.2.2.2.2 x s
theorem z_ctkw (h : z_ctk cds f t m k a v c w b) {i : Nat} (hi : 1 ≤ i) (hw : w = i) : z_TL f t m a (cds.getD i 0) := by
  by_cases hk : k = 4
  · have q := z_ctk4 h hk
    rcases q.2 with ⟨e, -⟩ | ⟨-, -, e⟩
    · omega
    · rw [← hw, ← e]
      exact q.1
  · exfalso
    obtain ⟨-, h⟩ := h
    rcases h with ⟨-, e, -⟩ | ⟨-, -, -, q⟩
    · omega
    · rcases q with q | q | q | q
      · have := q.2.1; omega
      · have := q.2.1; omega
      · exact hk q.1
      · have := q.2.1; omega
theorem z_ctkwn (h : z_ctk cds f t m k a v c w b) (hd : ∀ i : Nat, i < 22 → ∀ j : Nat, j < 22 → cds.getD i 0 = cds.getD j 0 → i = j) {i : Nat} (hi : 1 ≤ i) (hi2 : i < 22) (hw : ¬ w = i) : ¬ z_TL f t m a (cds.getD i 0) := by
  intro s
  by_cases hk : k = 4
  · have q := z_ctk4 h hk
    have e := z_TlE s q.1
    rcases q.2 with ⟨-, e2⟩ | ⟨h1, h2, e2⟩
    · exact e2 i hi hi2 e.symm
    · exact hw (hd w h2 i hi2 (e2.symm.trans e.symm))
  · exact z_ctk4n h hk _ s
theorem z_ctkA (h : z_ctk cds f t m k a v c w b) : 0 ≤ a.toInt := h.1
theorem z_ctkB (h : z_ctk cds f t m k a v c w b) (ns : ¬ z_stp t.toInt.toNat m.toInt.toNat a.toInt.toNat) : z_Tb f t.toInt.toNat a.toInt.toNat b.toInt.toNat := by
  obtain ⟨-, h⟩ := h
  rcases h with ⟨st, -⟩ | ⟨-, -, q, -⟩
  · exact absurd st ns
  · exact q
theorem z_SAI {k' a' v' b' : Int32} {c' : Int64} {w' : Nat} (h : z_ctk cds f t m k a v c w b) (ns : ¬ z_stp t.toInt.toNat m.toInt.toNat a.toInt.toNat) (hx : z_TX f t m b a') (h' : z_ctk cds f t m k' a' v' c' w' b') : z_SA f t m a a' := ⟨h'.1, ns, b.toInt.toNat, z_ctkB h ns, hx⟩
end
theorem z_SE1 {f : Nat → Int32} {t m k a v b : Int32} {c : Int64} {w : Nat} (h : z_ctk z_cds f t m k a v c w b) (hk : k = 0) (ht : z_in 0 940 t) (hm : z_in 0 940 m) : z_SE 1 t m a := Or.inl ⟨rfl, z_ctk0 h hk ht hm⟩
theorem z_SE0 {f : Nat → Int32} {t m k a v b : Int32} {c : Int64} {w : Nat} (h : z_ctk z_cds f t m k a v c w b) (hk : ¬ k = 0) (ht : z_in 0 940 t) (hm : z_in 0 940 m) : z_SE 0 t m a := Or.inr ⟨rfl, z_ctk0n h hk ht hm⟩
theorem z_SS1 {f : Nat → Int32} {t m k a v b x : Int32} {c : Int64} {w : Nat} (h : z_ctk z_cds f t m k a v c w b) (hk : k = 2) (hv : v = x) : z_SS 1 f t m a x := Or.inl ⟨rfl, hv ▸ z_ctk2 h hk⟩
theorem z_SS0 {f : Nat → Int32} {t m k a v b x : Int32} {c : Int64} {w : Nat} (h : z_ctk z_cds f t m k a v c w b) (hk : ¬ k = 2) : z_SS 0 f t m a x := Or.inr ⟨rfl, z_ctk2n h hk x⟩
theorem z_SS2 {f : Nat → Int32} {t m k a v b x : Int32} {c : Int64} {w : Nat} (h : z_ctk z_cds f t m k a v c w b) (hk : k = 2) (hv : ¬ v = x) : z_SS 0 f t m a x := Or.inr ⟨rfl, fun q => hv ((z_ctk2 h hk).2.1.symm.trans q.2.1)⟩
theorem z_Nc1 {f : Nat → Int32} {t m k a v b : Int32} {c : Int64} {w : Nat} (h : z_ctk z_cds f t m k a v c w b) (hk : k = 4) (hw : w = 0) : z_Nc 1 f t m a c := by
  have q := z_ctk4 h hk
  refine Or.inl ⟨rfl, q.1, ?_⟩
  rcases q.2 with ⟨-, e⟩ | ⟨e, -⟩
  · exact e
  · omega
theorem z_Nc0 {f : Nat → Int32} {t m k a v b : Int32} {c : Int64} {w : Nat} (h : z_ctk z_cds f t m k a v c w b) (hk : ¬ k = 4) : z_Nc 0 f t m a c := Or.inr ⟨rfl, fun q => z_ctk4n h hk _ q.choose_spec.1⟩
theorem z_Nc2 {f : Nat → Int32} {t m k a v b : Int32} {c : Int64} {w : Nat} (h : z_ctk z_cds f t m k a v c w b) (hk : k = 4) (hw : w ≠ 0) : z_Nc 0 f t m a c := by
  have q := z_ctk4 h hk
  refine Or.inr ⟨rfl, fun s => ?_⟩
  obtain ⟨d, s1, s2⟩ := s
  have e := z_TlE s1 q.1
  rcases q.2 with ⟨e2, -⟩ | ⟨h1, h2, e2⟩
  · exact hw e2
  · exact s2 w h1 h2 (e.trans e2)
def z_fa (F G i a : Int32) : Prop := F = i ∧ G = a
theorem z_faI {i a : Int32} : z_fa i a i a := ⟨rfl, rfl⟩
theorem z_faX {F G i a : Int32} (h : z_z0 F) (hn : ¬ F = 0) : z_fa F G i a := absurd h hn
def z_Ps (f : Nat → Int32) (t m a x r a' F G : Int32) : Prop := (r = 1 ∧ z_z0 F ∧ z_fSg f t m x a = .inr a') ∨ (r = 0 ∧ z_fSg f t m x a = .inl (F, G))
theorem z_Ps0 {f : Nat → Int32} {t m a x r a' F G q : Int32} (hr : r = 0) (hq : z_SS q f t m a x) (e : q = 0) (hf : z_fa F G 1 a) : z_Ps f t m a x r a' F G := by
  refine Or.inr ⟨hr, ?_⟩
  unfold z_fSg
  rw [z_ifF (z_qF hq e), hf.1, hf.2]
theorem z_Ps1 {f : Nat → Int32} {t m k a v b x r k' a' v' b' F G q : Int32} {c c' : Int64} {w w' : Nat} (hr : r = 1) (hq : z_SS q f t m a x) (e : q = 1) (hF : z_z0 F) (hx : z_TX f t m b a') (h : z_ctk z_cds f t m k a v c w b) (h' : z_ctk z_cds f t m k' a' v' c' w' b') : z_Ps f t m a x r a' F G := by
  have s := z_qT hq e
  refine Or.inl ⟨hr, hF, ?_⟩
  unfold z_fSg
  rw [z_ifT s, z_nxtE (z_SAI h s.1 hx h')]
def z_Pn (f : Nat → Int32) (t m lo hi a x a' F G : Int32) : Prop := (¬ x = -1 ∧ z_z0 F ∧ z_fNu f t m lo hi a = .inr (x, a')) ∨ (x = -1 ∧ z_fNu f t m lo hi a = .inl (F, G))
theorem z_Pn1 {f : Nat → Int32} {t m lo hi k a v b a' F G : Int32} {c : Int64} {w : Nat} (h : z_ctk z_cds f t m k a v c w b) (hk : ¬ k = 3) (hf : z_fa F G 1 a) : z_Pn f t m lo hi a (-1) a' F G := by
  refine Or.inr ⟨rfl, ?_⟩
  unfold z_fNu
  rw [z_ifF (z_ctk3n h hk), hf.1, hf.2]
theorem z_Pn2 {f : Nat → Int32} {t m lo hi k a v b a' F G : Int32} {c : Int64} {w : Nat} (h : z_ctk z_cds f t m k a v c w b) (hk : k = 3) (hn : ¬ (lo.toInt ≤ v.toInt ∧ v.toInt ≤ hi.toInt)) (hf : z_fa F G 2 a) : z_Pn f t m lo hi a (-1) a' F G := by
  have q := z_ctk3 h hk
  refine Or.inr ⟨rfl, ?_⟩
  unfold z_fNu
  rw [z_ifT ⟨v, q⟩, z_numE q, z_ifF hn, hf.1, hf.2]
theorem z_Pn2l {f : Nat → Int32} {t m lo hi k a v b a' F G : Int32} {c : Int64} {w : Nat} (h : z_ctk z_cds f t m k a v c w b) (hk : k = 3) (hn : v < lo) (hf : z_fa F G 2 a) : z_Pn f t m lo hi a (-1) a' F G := z_Pn2 h hk (fun q => by have := Int32.lt_iff_toInt_lt.mp hn; have := q.1; omega) hf
theorem z_Pn2h {f : Nat → Int32} {t m lo hi k a v b a' F G : Int32} {c : Int64} {w : Nat} (h : z_ctk z_cds f t m k a v c w b) (hk : k = 3) (hn : hi < v) (hf : z_fa F G 2 a) : z_Pn f t m lo hi a (-1) a' F G := z_Pn2 h hk (fun q => by have := Int32.lt_iff_toInt_lt.mp hn; have := q.2; omega) hf
theorem z_Pn3 {f : Nat → Int32} {t m lo hi k a v b k' a' v' b' F G : Int32} {c c' : Int64} {w w' : Nat} (h : z_ctk z_cds f t m k a v c w b) (hk : k = 3) (h1 : lo ≤ v) (h2 : v ≤ hi) (h0 : ¬ v = -1) (hF : z_z0 F) (hx : z_TX f t m b a') (h' : z_ctk z_cds f t m k' a' v' c' w' b') : z_Pn f t m lo hi a v a' F G := by
  have q := z_ctk3 h hk
  refine Or.inl ⟨h0, hF, ?_⟩
  unfold z_fNu
  rw [z_ifT ⟨v, q⟩, z_numE q, z_ifT ⟨Int32.le_iff_toInt_le.mp h1, Int32.le_iff_toInt_le.mp h2⟩, z_nxtE (z_SAI h q.1 hx h')]
def z_ls (cl : Nat → Int64) (n : Int32) : List Int64 := (List.range n.toInt.toNat).map cl
theorem z_lsG {cl : Nat → Int64} {n : Int32} (k : Nat) : (z_ls cl n)[k]? = if k < n.toInt.toNat then some (cl k) else none := by
  unfold z_ls
  rw [List.getElem?_map]
  split
  · next hk => rw [List.getElem?_range hk]; rfl
  · next hk => rw [List.getElem?_eq_none (by rw [List.length_range]; omega)]; rfl
theorem z_lsL {cl : Nat → Int64} {n : Int32} : (z_ls cl n).length = n.toInt.toNat := by simp [z_ls]
def z_fdc (cl : Nat → Int64) (n : Int32) (c : Int64) (x : Int32) : Prop := z_fnd (z_ls cl n) c x
def z_fj (cl : Nat → Int64) (c : Int64) (i : Int32) : Prop := 0 ≤ i.toInt ∧ ∀ j : Nat, j < i.toInt.toNat → ¬ cl j = c
theorem z_fj0 {cl : Nat → Int64} {c : Int64} : z_fj cl c 0 := ⟨by decide, fun j h => absurd h (Nat.not_lt_zero j)⟩
theorem z_fjS {cl : Nat → Int64} {c y : Int64} {i i' : Int32} (hI : z_fj cl c i) (ti : i'.toInt = i.toInt + 1) (ey : y = cl i.toNatClampNeg) (hn : ¬ y = c) : z_fj cl c i' := by
  have h0 := hI.1
  refine ⟨by omega, fun j hj => ?_⟩
  rcases Nat.lt_or_ge j i.toInt.toNat with q | q
  · exact hI.2 j q
  · have e : j = i.toNatClampNeg := by
      have e2 : i.toNatClampNeg = i.toInt.toNat := rfl
      omega
    rw [e, ← ey]
    exact hn
theorem z_fdF {cl : Nat → Int64} {n : Int32} {c y : Int64} {i : Int32} (hI : z_fj cl c i) (hl : i < n) (ey : y = cl i.toNatClampNeg) (hc : y = c) : z_fdc cl n c i := by
  have h0 := hI.1
  have hl := Int32.lt_iff_toInt_lt.mp hl
  refine Or.inr ⟨i.toInt.toNat, by omega, ?_, fun j hj => ?_⟩
  · rw [z_lsG, if_pos (by omega)]
    exact congrArg some (ey.symm.trans hc)
  · rw [z_lsG, if_pos (by omega)]
    exact fun q => hI.2 j hj (Option.some.inj q)
theorem z_fdN {cl : Nat → Int64} {n : Int32} {c : Int64} {i : Int32} (hI : z_fj cl c i) (hl : n ≤ i) : z_fdc cl n c (-1) := by
  have hl := Int32.le_iff_toInt_le.mp hl
  refine Or.inl ⟨rfl, fun k => ?_⟩
  rw [z_lsG]
  split
  · exact fun q => hI.2 k (by omega) (Option.some.inj q)
  · exact fun q => by cases q
def z_na (cl' cl : Nat → Int64) (n' n : Int32) (c : Int64) : Prop := cl' = vp_updL cl n.toInt.toNat c ∧ n'.toInt = n.toInt + 1 ∧ 0 ≤ n.toInt
theorem z_naI {cl' cl : Nat → Int64} {n' n : Int32} {c : Int64} (e : vp_updL cl n.toNatClampNeg c = cl') (tn : n'.toInt = n.toInt + 1) (h0 : z_in 0 7 n) : z_na cl' cl n' n c := ⟨e.symm, tn, h0.1⟩
theorem z_lsA {cl' cl : Nat → Int64} {n' n : Int32} {c : Int64} (h : z_na cl' cl n' n c) : z_ls cl' n' = z_ls cl n ++ [c] := by
  obtain ⟨e, tn, h0⟩ := h
  have en : n'.toInt.toNat = n.toInt.toNat + 1 := by omega
  unfold z_ls
  rw [en, List.range_succ, List.map_append, e]
  congr 1
  · apply List.map_congr_left
    intro j hj
    have hj := List.mem_range.mp hj
    show (if j = n.toInt.toNat then c else cl j) = cl j
    rw [if_neg (by omega)]
  · show [if n.toInt.toNat = n.toInt.toNat then c else cl n.toInt.toNat] = [c]
    rw [if_pos rfl]
def z_kn (r : Int32) (cl : Nat → Int64) (nl : Int32) (cp : Nat → Int64) (np : Int32) (cu : Nat → Int64) (nu : Int32) (c : Int64) : Prop := (r = 0 ∧ (z_fid (z_ls cl nl) c = -1 ∧ z_fid (z_ls cp np) c = -1 ∧ z_fid (z_ls cu nu) c = -1)) ∨ (r = 1 ∧ ¬ (z_fid (z_ls cl nl) c = -1 ∧ z_fid (z_ls cp np) c = -1 ∧ z_fid (z_ls cu nu) c = -1))
section
variable {cl cp cu : Nat → Int64} {nl np nu x y z : Int32} {c : Int64}
theorem z_kn0 (h1 : z_fdc cl nl c x) (e1 : x = -1) (h2 : z_fdc cp np c y) (e2 : y = -1) (h3 : z_fdc cu nu c z) (e3 : z = -1) : z_kn 0 cl nl cp np cu nu c := Or.inl ⟨rfl, (z_fidE h1).trans e1, (z_fidE h2).trans e2, (z_fidE h3).trans e3⟩
theorem z_kn1 (h1 : z_fdc cl nl c x) (e1 : ¬ x = -1) : z_kn 1 cl nl cp np cu nu c := Or.inr ⟨rfl, fun q => e1 ((z_fidE h1).symm.trans q.1)⟩
theorem z_kn2 (h1 : z_fdc cp np c x) (e1 : ¬ x = -1) : z_kn 1 cl nl cp np cu nu c := Or.inr ⟨rfl, fun q => e1 ((z_fidE h1).symm.trans q.2.1)⟩
theorem z_kn3 (h1 : z_fdc cu nu c x) (e1 : ¬ x = -1) : z_kn 1 cl nl cp np cu nu c := Or.inr ⟨rfl, fun q => e1 ((z_fidE h1).symm.trans q.2.2)⟩
end
def z_Kc (f : Nat → Int32) (t m a : Int32) (cl : Nat → Int64) (n x F G : Int32) : Prop := (¬ x = -1 ∧ z_z0 F ∧ z_fKn f t m (z_ls cl n) a = .inr x) ∨ (x = -1 ∧ z_fKn f t m (z_ls cl n) a = .inl (F, G))
def z_Pk (f : Nat → Int32) (t m a : Int32) (cl : Nat → Int64) (n x a' F G : Int32) : Prop := (¬ x = -1 ∧ z_z0 F ∧ z_fPk f t m (z_ls cl n) a = .inr (x, a')) ∨ (x = -1 ∧ z_fPk f t m (z_ls cl n) a = .inl (F, G))
def z_Pw (f : Nat → Int32) (t m a : Int32) (cl : Nat → Int64) (nl : Int32) (cp : Nat → Int64) (np : Int32) (cu : Nat → Int64) (nu : Int32) (c : Int64) (a' F G : Int32) : Prop := (¬ c = 0 ∧ z_z0 F ∧ z_fNw f t m (z_ls cl nl) (z_ls cp np) (z_ls cu nu) a = .inr (c, a')) ∨ (c = 0 ∧ z_fNw f t m (z_ls cl nl) (z_ls cp np) (z_ls cu nu) a = .inl (F, G))
theorem z_Kc1 {f : Nat → Int32} {t m a : Int32} {cl : Nat → Int64} {n F G q : Int32} {c : Int64} (hq : z_Nc q f t m a c) (e : q = 0) (hf : z_fa F G 1 a) : z_Kc f t m a cl n (-1) F G := by
  refine Or.inr ⟨rfl, ?_⟩
  have nh : ¬ z_hN f t m a := by
    rcases hq with ⟨h, -⟩ | ⟨-, h⟩
    · rw [e] at h
      exact absurd h (by decide)
    · exact h
  unfold z_fKn
  rw [z_ifF nh, hf.1, hf.2]
theorem z_NcT {f : Nat → Int32} {t m a q : Int32} {c : Int64} (hq : z_Nc q f t m a c) (e : q = 1) : z_NM f t m a c := by
  rcases hq with ⟨-, h⟩ | ⟨h, -⟩
  · exact h
  · rw [e] at h
    exact absurd h (by decide)
theorem z_Kc3 {f : Nat → Int32} {t m a : Int32} {cl : Nat → Int64} {n F G q x : Int32} {c : Int64} (hq : z_Nc q f t m a c) (e : q = 1) (hd : z_fdc cl n c x) (hx : x = -1) (hf : z_fa F G 3 a) : z_Kc f t m a cl n x F G := by
  have h := z_NcT hq e
  refine Or.inr ⟨hx, ?_⟩
  unfold z_fKn
  rw [z_ifT ⟨c, h⟩, z_namE h, z_fidE hd, z_ifT hx, hf.1, hf.2]
theorem z_Kc0 {f : Nat → Int32} {t m a : Int32} {cl : Nat → Int64} {n F G q x : Int32} {c : Int64} (hq : z_Nc q f t m a c) (e : q = 1) (hd : z_fdc cl n c x) (hx : ¬ x = -1) (hF : z_z0 F) : z_Kc f t m a cl n x F G := by
  have h := z_NcT hq e
  refine Or.inl ⟨hx, hF, ?_⟩
  unfold z_fKn
  rw [z_ifT ⟨c, h⟩, z_namE h, z_fidE hd, z_ifF hx]
theorem z_KnS {f : Nat → Int32} {t m a x : Int32} {P : List Int64} (h : z_fKn f t m P a = .inr x) : ¬ z_stp t.toInt.toNat m.toInt.toNat a.toInt.toNat := by
  by_cases q : z_hN f t m a
  · obtain ⟨c, q⟩ := q
    exact q.1.1
  · unfold z_fKn at h
    rw [z_ifF q] at h
    cases h
theorem z_Pk0 {f : Nat → Int32} {t m a a' : Int32} {cl : Nat → Int64} {n F G x : Int32} (h : z_Kc f t m a cl n x F G) (hx : x = -1) : z_Pk f t m a cl n x a' F G := by
  rcases h with ⟨q, -⟩ | ⟨-, q⟩
  · exact absurd hx q
  · exact Or.inr ⟨hx, z_bdL q⟩
theorem z_Pk1 {f : Nat → Int32} {t m k a v b k' a' v' b' : Int32} {c c' : Int64} {w w' : Nat} {cl : Nat → Int64} {n F G x : Int32} (h : z_Kc f t m a cl n x F G) (hx : ¬ x = -1) (hc : z_ctk z_cds f t m k a v c w b) (ht : z_TX f t m b a') (hc' : z_ctk z_cds f t m k' a' v' c' w' b') : z_Pk f t m a cl n x a' F G := by
  rcases h with ⟨-, q0, q⟩ | ⟨q, -⟩
  · refine Or.inl ⟨hx, q0, ?_⟩
    unfold z_fPk
    rw [z_bdR q, z_nxtE (z_SAI hc (z_KnS q) ht hc')]
  · exact absurd q hx
theorem z_Pw1 {f : Nat → Int32} {t m a a' : Int32} {cl cp cu : Nat → Int64} {nl np nu F G q : Int32} {c : Int64} (hq : z_Nc q f t m a c) (e : q = 0) (hf : z_fa F G 1 a) : z_Pw f t m a cl nl cp np cu nu 0 a' F G := by
  have nh : ¬ z_hN f t m a := by
    rcases hq with ⟨h, -⟩ | ⟨-, h⟩
    · rw [e] at h
      exact absurd h (by decide)
    · exact h
  refine Or.inr ⟨rfl, ?_⟩
  unfold z_fNw
  rw [z_ifF nh, hf.1, hf.2]
theorem z_Pw3 {f : Nat → Int32} {t m a a' : Int32} {cl cp cu : Nat → Int64} {nl np nu F G q y : Int32} {c : Int64} (hq : z_Nc q f t m a c) (e : q = 1) (hk : z_kn y cl nl cp np cu nu c) (hy : y = 1) (hf : z_fa F G 3 a) : z_Pw f t m a cl nl cp np cu nu 0 a' F G := by
  have h := z_NcT hq e
  have nk : ¬ (z_fid (z_ls cl nl) c = -1 ∧ z_fid (z_ls cp np) c = -1 ∧ z_fid (z_ls cu nu) c = -1) := by
    rcases hk with ⟨k, -⟩ | ⟨-, k⟩
    · rw [hy] at k
      exact absurd k (by decide)
    · exact k
  refine Or.inr ⟨rfl, ?_⟩
  unfold z_fNw
  rw [z_ifT ⟨c, h⟩, z_namE h, z_ifF nk, hf.1, hf.2]
theorem z_TL0 {f : Nat → Int32} {t m A : Nat} {c : Int64} (h : z_Tl f t m A c) : ¬ c = 0 := by
  obtain ⟨-, E, r, l, l7, d, e⟩ := h
  intro q
  have e2 := z_c5N (E - A) l7 d
  rw [← e, q] at e2
  obtain ⟨n, hn⟩ : ∃ n, E - A = n + 1 := ⟨E - A - 1, by omega⟩
  rw [hn] at e2
  have hl := d n (by omega)
  have h1 := hl.1
  have e0 : z_N 0 = 0 := rfl
  have e3 : z_pk 32 96 f A (n + 1) = z_pk 32 96 f A n * 32 + ((z_o f (A + n)).toInt.toNat - 96) := rfl
  omega
theorem z_Pw0 {f : Nat → Int32} {t m k a v b k' a' v' b' : Int32} {c c' : Int64} {w w' : Nat} {cl cp cu : Nat → Int64} {nl np nu F G q y : Int32} (hq : z_Nc q f t m a c) (e : q = 1) (hk : z_kn y cl nl cp np cu nu c) (hy : y = 0) (hF : z_z0 F) (hc : z_ctk z_cds f t m k a v c w b) (ht : z_TX f t m b a') (hc' : z_ctk z_cds f t m k' a' v' c' w' b') : z_Pw f t m a cl nl cp np cu nu c a' F G := by
  have h := z_NcT hq e
  have nk : z_fid (z_ls cl nl) c = -1 ∧ z_fid (z_ls cp np) c = -1 ∧ z_fid (z_ls cu nu) c = -1 := by
    rcases hk with ⟨-, k⟩ | ⟨k, -⟩
    · exact k
    · rw [hy] at k
      exact absurd k (by decide)
  refine Or.inl ⟨z_TL0 h.1, hF, ?_⟩
  unfold z_fNw
  rw [z_ifT ⟨c, h⟩, z_namE h, z_ifT nk, z_nxtE (z_SAI hc h.1.1 ht hc')]
def z_tw (cl : Nat → Int64) (nl : Int32) (cp : Nat → Int64) (np : Int32) (cu : Nat → Int64) (nu ms fr : Int32) : z_TW := (z_ls cl nl, z_ls cp np, z_ls cu nu, ms, fr)
def z_RL (g : z_TW → Int32 → (Int32 × Int32) ⊕ (z_TW × Int32)) (S : z_TW) (a r : Int32) (S' : z_TW) (a' F G : Int32) : Prop := (r = 1 ∧ z_z0 F ∧ g S a = .inr (S', a')) ∨ (r = 0 ∧ g S a = .inl (F, G))
noncomputable def z_gK (k : Nat) (f : Nat → Int32) (t m : Int32) : z_TW → Int32 → (Int32 × Int32) ⊕ (z_TW × Int32) := match k with
  | 0 => z_fPl f t m
  | 1 => z_fPe f t m
  | 2 => z_fSo f t m
  | 3 => z_fUm f t m
  | 4 => z_fFa f t m
  | _ => z_fLi f t m
def z_RK (k : Nat) (f : Nat → Int32) (t m a : Int32) (cl : Nat → Int64) (nl : Int32) (cp : Nat → Int64) (np : Int32) (cu : Nat → Int64) (nu ms fr r a' : Int32) (cl' : Nat → Int64) (nl' : Int32) (cp' : Nat → Int64) (np' : Int32) (cu' : Nat → Int64) (nu' ms' fr' F G : Int32) : Prop := z_RL (z_gK k f t m) (z_tw cl nl cp np cu nu ms fr) a r (z_tw cl' nl' cp' np' cu' nu' ms' fr') a' F G
def z_ns (t m a : Int32) : Prop := ¬ z_stp t.toInt.toNat m.toInt.toNat a.toInt.toNat
theorem z_SAr {f : Nat → Int32} {t m k a v b k' a' v' b' : Int32} {c c' : Int64} {w w' : Nat} (hn : z_ns t m a) (h : z_ctk z_cds f t m k a v c w b) (hx : z_TX f t m b a') (h' : z_ctk z_cds f t m k' a' v' c' w' b') : z_SA f t m a a' := z_SAI h hn hx h'
theorem z_nsW {f : Nat → Int32} {t m k a v b : Int32} {c : Int64} {w i : Nat} (h : z_ctk z_cds f t m k a v c w b) (hi : decide (1 ≤ i) = true) (hw : w = i) : z_ns t m a := (z_ctkw h (of_decide_eq_true hi) hw).1
section
variable {f : Nat → Int32} {t m a a1 a2 a3 a4 a9 r F G ms fr ms' fr' nl np nu nl' np' nu' F1 G1 F2 G2 F3 G3 x y z : Int32} {P Q U : List Int64} {cl cp cu cl' cp' cu' : Nat → Int64} {c : Int64}
theorem z_fPlU : z_fPl f t m (P, Q, U, ms, fr) a = z_if (5 ≤ P.length) (.inl (4, a)) (z_bd (z_fNw f t m P Q U (z_nxt f t m a)) (fun q => .inr ((P ++ [q.1], Q, U, ms, fr), q.2))) := rfl
theorem z_fPeU : z_fPe f t m (P, Q, U, ms, fr) a = z_if (7 ≤ Q.length) (.inl (4, a)) (z_bd (z_fNw f t m P Q U (z_nxt f t m a)) (fun q => z_bd (z_fPk f t m P q.2) (fun h => .inr ((P, Q ++ [q.1], U, ms, fr), z_if (z_TL f t m h.2 (z_cds.getD 3 0)) (z_nxt f t m h.2) h.2)))) := rfl
theorem z_fSoU : z_fSo f t m (P, Q, U, ms, fr) a = z_if (14 ≤ ms.toInt) (.inl (4, a)) (z_bd (z_fPk f t m Q (z_nxt f t m a)) (fun p => z_bd (z_fNu f t m 1 199 p.2) (fun d => z_bd (z_fNu f t m 1 20 d.2) (fun n => .inr ((P, Q, U, ms + 1, fr), n.2))))) := rfl
theorem z_fUmU : z_fUm f t m (P, Q, U, ms, fr) a = z_if (6 ≤ U.length) (.inl (4, a)) (z_bd (z_fNw f t m P Q U (z_nxt f t m a)) (fun q => z_bd (z_fPk f t m P q.2) (fun h => z_bd (z_fNu f t m 0 12 h.2) (fun n => .inr ((P, Q, U ++ [q.1], ms, fr), n.2))))) := rfl
theorem z_fFaU : z_fFa f t m (P, Q, U, ms, fr) a = z_if (¬ fr = 0) (.inl (3, a)) (z_bd (z_fNu f t m 1 5 (z_nxt f t m a)) (fun n => .inr ((P, Q, U, ms, n.1), n.2))) := rfl
theorem z_PwL (h : z_Pw f t m a cl nl cp np cu nu c a9 F G) (hc : c = 0) : z_fNw f t m (z_ls cl nl) (z_ls cp np) (z_ls cu nu) a = .inl (F, G) := h.elim (fun q => absurd hc q.1) (fun q => q.2)
theorem z_PwR (h : z_Pw f t m a cl nl cp np cu nu c a9 F G) (hc : ¬ c = 0) : z_fNw f t m (z_ls cl nl) (z_ls cp np) (z_ls cu nu) a = .inr (c, a9) := h.elim (fun q => q.2.2) (fun q => absurd q.1 hc)
theorem z_PwF (h : z_Pw f t m a cl nl cp np cu nu c a9 F G) (hc : ¬ c = 0) : z_z0 F := h.elim (fun q => q.2.1) (fun q => absurd q.1 hc)
theorem z_PkL (h : z_Pk f t m a cl nl x a9 F G) (hc : x = -1) : z_fPk f t m (z_ls cl nl) a = .inl (F, G) := h.elim (fun q => absurd hc q.1) (fun q => q.2)
theorem z_PkR (h : z_Pk f t m a cl nl x a9 F G) (hc : ¬ x = -1) : z_fPk f t m (z_ls cl nl) a = .inr (x, a9) := h.elim (fun q => q.2.2) (fun q => absurd q.1 hc)
theorem z_PkF (h : z_Pk f t m a cl nl x a9 F G) (hc : ¬ x = -1) : z_z0 F := h.elim (fun q => q.2.1) (fun q => absurd q.1 hc)
theorem z_PnL {lo hi : Int32} (h : z_Pn f t m lo hi a x a9 F G) (hc : x = -1) : z_fNu f t m lo hi a = .inl (F, G) := h.elim (fun q => absurd hc q.1) (fun q => q.2)
theorem z_PnR {lo hi : Int32} (h : z_Pn f t m lo hi a x a9 F G) (hc : ¬ x = -1) : z_fNu f t m lo hi a = .inr (x, a9) := h.elim (fun q => q.2.2) (fun q => absurd q.1 hc)
theorem z_PnF {lo hi : Int32} (h : z_Pn f t m lo hi a x a9 F G) (hc : ¬ x = -1) : z_z0 F := h.elim (fun q => q.2.1) (fun q => absurd q.1 hc)
theorem z_RP4 (hn : z_in 5 5 nl) (hr : r = 0) (hf : z_fa F G 4 a) : z_RK 0 f t m a cl nl cp np cu nu ms fr r a9 cl' nl' cp' np' cu' nu' ms' fr' F G := by
  refine Or.inr ⟨hr, ?_⟩
  show z_fPl f t m (z_ls cl nl, z_ls cp np, z_ls cu nu, ms, fr) a = _
  rw [z_fPlU, z_ifT (show 5 ≤ (z_ls cl nl).length by rw [z_lsL]; have := hn.1; omega), hf.1, hf.2]
theorem z_RP0 (hn : z_in 0 4 nl) (hw : z_Pw f t m a1 cl nl cp np cu nu c a2 F G) (hc : c = 0) (hs : z_SA f t m a a1) (hr : r = 0) : z_RK 0 f t m a cl nl cp np cu nu ms fr r a9 cl' nl' cp' np' cu' nu' ms' fr' F G := by
  refine Or.inr ⟨hr, ?_⟩
  show z_fPl f t m (z_ls cl nl, z_ls cp np, z_ls cu nu, ms, fr) a = _
  rw [z_fPlU, z_ifF (show ¬ 5 ≤ (z_ls cl nl).length by rw [z_lsL]; have := hn.1; have := hn.2; omega), z_nxtE hs]
  exact z_bdL (z_PwL hw hc)
theorem z_RP1 (hn : z_in 0 4 nl) (hw : z_Pw f t m a1 cl nl cp np cu nu c a2 F G) (hc : ¬ c = 0) (hs : z_SA f t m a a1) (ha : z_na cl' cl nl' nl c) (hr : r = 1) : z_RK 0 f t m a cl nl cp np cu nu ms fr r a2 cl' nl' cp np cu nu ms fr F G := by
  refine Or.inl ⟨hr, z_PwF hw hc, ?_⟩
  show z_fPl f t m (z_ls cl nl, z_ls cp np, z_ls cu nu, ms, fr) a = .inr ((z_ls cl' nl', z_ls cp np, z_ls cu nu, ms, fr), a2)
  rw [z_fPlU, z_ifF (show ¬ 5 ≤ (z_ls cl nl).length by rw [z_lsL]; have := hn.1; have := hn.2; omega), z_nxtE hs, z_bdR (z_PwR hw hc), z_lsA ha]
theorem z_RE4 (hn : z_in 7 7 np) (hr : r = 0) (hf : z_fa F G 4 a) : z_RK 1 f t m a cl nl cp np cu nu ms fr r a9 cl' nl' cp' np' cu' nu' ms' fr' F G := by
  refine Or.inr ⟨hr, ?_⟩
  show z_fPe f t m (z_ls cl nl, z_ls cp np, z_ls cu nu, ms, fr) a = _
  rw [z_fPeU, z_ifT (show 7 ≤ (z_ls cp np).length by rw [z_lsL]; have := hn.1; omega), hf.1, hf.2]
theorem z_RE0 (hn : z_in 0 6 np) (hw : z_Pw f t m a1 cl nl cp np cu nu c a2 F G) (hc : c = 0) (hs : z_SA f t m a a1) (hr : r = 0) : z_RK 1 f t m a cl nl cp np cu nu ms fr r a9 cl' nl' cp' np' cu' nu' ms' fr' F G := by
  refine Or.inr ⟨hr, ?_⟩
  show z_fPe f t m (z_ls cl nl, z_ls cp np, z_ls cu nu, ms, fr) a = _
  rw [z_fPeU, z_ifF (show ¬ 7 ≤ (z_ls cp np).length by rw [z_lsL]; have := hn.1; have := hn.2; omega), z_nxtE hs]
  exact z_bdL (z_PwL hw hc)
theorem z_RE1 (hn : z_in 0 6 np) (hw : z_Pw f t m a1 cl nl cp np cu nu c a2 F1 G1) (hc : ¬ c = 0) (hs : z_SA f t m a a1) (hk : z_Pk f t m a2 cl nl x a3 F G) (hx : x = -1) (hr : r = 0) : z_RK 1 f t m a cl nl cp np cu nu ms fr r a9 cl' nl' cp' np' cu' nu' ms' fr' F G := by
  refine Or.inr ⟨hr, ?_⟩
  show z_fPe f t m (z_ls cl nl, z_ls cp np, z_ls cu nu, ms, fr) a = _
  rw [z_fPeU, z_ifF (show ¬ 7 ≤ (z_ls cp np).length by rw [z_lsL]; have := hn.1; have := hn.2; omega), z_nxtE hs, z_bdR (z_PwR hw hc)]
  exact z_bdL (z_PkL hk hx)
theorem z_RE2 {k v b : Int32} {d : Int64} {w : Nat} (hn : z_in 0 6 np) (hw : z_Pw f t m a1 cl nl cp np cu nu c a2 F1 G1) (hc : ¬ c = 0) (hs : z_SA f t m a a1) (hk : z_Pk f t m a2 cl nl x a3 F G) (hx : ¬ x = -1) (ha : z_na cp' cp np' np c) (ht : z_ctk z_cds f t m k a3 v d w b) (hh : w ≠ 3) (hr : r = 1) : z_RK 1 f t m a cl nl cp np cu nu ms fr r a3 cl nl cp' np' cu nu ms fr F G := by
  refine Or.inl ⟨hr, z_PkF hk hx, ?_⟩
  show z_fPe f t m (z_ls cl nl, z_ls cp np, z_ls cu nu, ms, fr) a = .inr ((z_ls cl nl, z_ls cp' np', z_ls cu nu, ms, fr), a3)
  rw [z_fPeU, z_ifF (show ¬ 7 ≤ (z_ls cp np).length by rw [z_lsL]; have := hn.1; have := hn.2; omega), z_nxtE hs, z_bdR (z_PwR hw hc), z_bdR (z_PkR hk hx), z_lsA ha, z_ifF (z_ctkwn ht z_cdsD (by decide) (by decide) hh)]
theorem z_RE3 {k v b : Int32} {d : Int64} {w : Nat} (hn : z_in 0 6 np) (hw : z_Pw f t m a1 cl nl cp np cu nu c a2 F1 G1) (hc : ¬ c = 0) (hs : z_SA f t m a a1) (hk : z_Pk f t m a2 cl nl x a3 F G) (hx : ¬ x = -1) (ha : z_na cp' cp np' np c) (ht : z_ctk z_cds f t m k a3 v d w b) (hh : w = 3) (hs2 : z_SA f t m a3 a4) (hr : r = 1) : z_RK 1 f t m a cl nl cp np cu nu ms fr r a4 cl nl cp' np' cu nu ms fr F G := by
  refine Or.inl ⟨hr, z_PkF hk hx, ?_⟩
  show z_fPe f t m (z_ls cl nl, z_ls cp np, z_ls cu nu, ms, fr) a = .inr ((z_ls cl nl, z_ls cp' np', z_ls cu nu, ms, fr), a4)
  rw [z_fPeU, z_ifF (show ¬ 7 ≤ (z_ls cp np).length by rw [z_lsL]; have := hn.1; have := hn.2; omega), z_nxtE hs, z_bdR (z_PwR hw hc), z_bdR (z_PkR hk hx), z_lsA ha, z_ifT (z_ctkw ht (by decide) hh), z_nxtE hs2]
theorem z_RS4 (hn : z_in 14 14 ms) (hr : r = 0) (hf : z_fa F G 4 a) : z_RK 2 f t m a cl nl cp np cu nu ms fr r a9 cl' nl' cp' np' cu' nu' ms' fr' F G := by
  refine Or.inr ⟨hr, ?_⟩
  show z_fSo f t m (z_ls cl nl, z_ls cp np, z_ls cu nu, ms, fr) a = _
  rw [z_fSoU, z_ifT (show 14 ≤ ms.toInt from hn.1), hf.1, hf.2]
theorem z_RS1 (hn : z_in 0 13 ms) (hk : z_Pk f t m a1 cp np x a2 F G) (hx : x = -1) (hs : z_SA f t m a a1) (hr : r = 0) : z_RK 2 f t m a cl nl cp np cu nu ms fr r a9 cl' nl' cp' np' cu' nu' ms' fr' F G := by
  refine Or.inr ⟨hr, ?_⟩
  show z_fSo f t m (z_ls cl nl, z_ls cp np, z_ls cu nu, ms, fr) a = _
  rw [z_fSoU, z_ifF (show ¬ 14 ≤ ms.toInt by have := hn.2; omega), z_nxtE hs]
  exact z_bdL (z_PkL hk hx)
theorem z_RS2 (hn : z_in 0 13 ms) (hk : z_Pk f t m a1 cp np x a2 F1 G1) (hx : ¬ x = -1) (hs : z_SA f t m a a1) (hd : z_Pn f t m 1 199 a2 y a3 F G) (hy : y = -1) (hr : r = 0) : z_RK 2 f t m a cl nl cp np cu nu ms fr r a9 cl' nl' cp' np' cu' nu' ms' fr' F G := by
  refine Or.inr ⟨hr, ?_⟩
  show z_fSo f t m (z_ls cl nl, z_ls cp np, z_ls cu nu, ms, fr) a = _
  rw [z_fSoU, z_ifF (show ¬ 14 ≤ ms.toInt by have := hn.2; omega), z_nxtE hs, z_bdR (z_PkR hk hx)]
  exact z_bdL (z_PnL hd hy)
theorem z_RS3 (hn : z_in 0 13 ms) (hk : z_Pk f t m a1 cp np x a2 F1 G1) (hx : ¬ x = -1) (hs : z_SA f t m a a1) (hd : z_Pn f t m 1 199 a2 y a3 F2 G2) (hy : ¬ y = -1) (hq : z_Pn f t m 1 20 a3 z a4 F G) (hz : z = -1) (hr : r = 0) : z_RK 2 f t m a cl nl cp np cu nu ms fr r a9 cl' nl' cp' np' cu' nu' ms' fr' F G := by
  refine Or.inr ⟨hr, ?_⟩
  show z_fSo f t m (z_ls cl nl, z_ls cp np, z_ls cu nu, ms, fr) a = _
  rw [z_fSoU, z_ifF (show ¬ 14 ≤ ms.toInt by have := hn.2; omega), z_nxtE hs, z_bdR (z_PkR hk hx), z_bdR (z_PnR hd hy)]
  exact z_bdL (z_PnL hq hz)
theorem z_RS5 (hn : z_in 0 13 ms) (hk : z_Pk f t m a1 cp np x a2 F1 G1) (hx : ¬ x = -1) (hs : z_SA f t m a a1) (hd : z_Pn f t m 1 199 a2 y a3 F2 G2) (hy : ¬ y = -1) (hq : z_Pn f t m 1 20 a3 z a4 F G) (hz : ¬ z = -1) (e : ms' = ms + 1) (hr : r = 1) : z_RK 2 f t m a cl nl cp np cu nu ms fr r a4 cl nl cp np cu nu ms' fr F G := by
  refine Or.inl ⟨hr, z_PnF hq hz, ?_⟩
  show z_fSo f t m (z_ls cl nl, z_ls cp np, z_ls cu nu, ms, fr) a = .inr ((z_ls cl nl, z_ls cp np, z_ls cu nu, ms', fr), a4)
  rw [z_fSoU, z_ifF (show ¬ 14 ≤ ms.toInt by have := hn.2; omega), z_nxtE hs, z_bdR (z_PkR hk hx), z_bdR (z_PnR hd hy), z_bdR (z_PnR hq hz), e]
theorem z_RU4 (hn : z_in 6 6 nu) (hr : r = 0) (hf : z_fa F G 4 a) : z_RK 3 f t m a cl nl cp np cu nu ms fr r a9 cl' nl' cp' np' cu' nu' ms' fr' F G := by
  refine Or.inr ⟨hr, ?_⟩
  show z_fUm f t m (z_ls cl nl, z_ls cp np, z_ls cu nu, ms, fr) a = _
  rw [z_fUmU, z_ifT (show 6 ≤ (z_ls cu nu).length by rw [z_lsL]; have := hn.1; omega), hf.1, hf.2]
theorem z_RU0 (hn : z_in 0 5 nu) (hw : z_Pw f t m a1 cl nl cp np cu nu c a2 F G) (hc : c = 0) (hs : z_SA f t m a a1) (hr : r = 0) : z_RK 3 f t m a cl nl cp np cu nu ms fr r a9 cl' nl' cp' np' cu' nu' ms' fr' F G := by
  refine Or.inr ⟨hr, ?_⟩
  show z_fUm f t m (z_ls cl nl, z_ls cp np, z_ls cu nu, ms, fr) a = _
  rw [z_fUmU, z_ifF (show ¬ 6 ≤ (z_ls cu nu).length by rw [z_lsL]; have := hn.1; have := hn.2; omega), z_nxtE hs]
  exact z_bdL (z_PwL hw hc)
theorem z_RU1 (hn : z_in 0 5 nu) (hw : z_Pw f t m a1 cl nl cp np cu nu c a2 F1 G1) (hc : ¬ c = 0) (hs : z_SA f t m a a1) (hk : z_Pk f t m a2 cl nl x a3 F G) (hx : x = -1) (hr : r = 0) : z_RK 3 f t m a cl nl cp np cu nu ms fr r a9 cl' nl' cp' np' cu' nu' ms' fr' F G := by
  refine Or.inr ⟨hr, ?_⟩
  show z_fUm f t m (z_ls cl nl, z_ls cp np, z_ls cu nu, ms, fr) a = _
  rw [z_fUmU, z_ifF (show ¬ 6 ≤ (z_ls cu nu).length by rw [z_lsL]; have := hn.1; have := hn.2; omega), z_nxtE hs, z_bdR (z_PwR hw hc)]
  exact z_bdL (z_PkL hk hx)
theorem z_RU2 (hn : z_in 0 5 nu) (hw : z_Pw f t m a1 cl nl cp np cu nu c a2 F1 G1) (hc : ¬ c = 0) (hs : z_SA f t m a a1) (hk : z_Pk f t m a2 cl nl x a3 F2 G2) (hx : ¬ x = -1) (hq : z_Pn f t m 0 12 a3 z a4 F G) (hz : z = -1) (hr : r = 0) : z_RK 3 f t m a cl nl cp np cu nu ms fr r a9 cl' nl' cp' np' cu' nu' ms' fr' F G := by
  refine Or.inr ⟨hr, ?_⟩
  show z_fUm f t m (z_ls cl nl, z_ls cp np, z_ls cu nu, ms, fr) a = _
  rw [z_fUmU, z_ifF (show ¬ 6 ≤ (z_ls cu nu).length by rw [z_lsL]; have := hn.1; have := hn.2; omega), z_nxtE hs, z_bdR (z_PwR hw hc), z_bdR (z_PkR hk hx)]
  exact z_bdL (z_PnL hq hz)
theorem z_RU3 (hn : z_in 0 5 nu) (hw : z_Pw f t m a1 cl nl cp np cu nu c a2 F1 G1) (hc : ¬ c = 0) (hs : z_SA f t m a a1) (hk : z_Pk f t m a2 cl nl x a3 F2 G2) (hx : ¬ x = -1) (hq : z_Pn f t m 0 12 a3 z a4 F G) (hz : ¬ z = -1) (ha : z_na cu' cu nu' nu c) (hr : r = 1) : z_RK 3 f t m a cl nl cp np cu nu ms fr r a4 cl nl cp np cu' nu' ms fr F G := by
  refine Or.inl ⟨hr, z_PnF hq hz, ?_⟩
  show z_fUm f t m (z_ls cl nl, z_ls cp np, z_ls cu nu, ms, fr) a = .inr ((z_ls cl nl, z_ls cp np, z_ls cu' nu', ms, fr), a4)
  rw [z_fUmU, z_ifF (show ¬ 6 ≤ (z_ls cu nu).length by rw [z_lsL]; have := hn.1; have := hn.2; omega), z_nxtE hs, z_bdR (z_PwR hw hc), z_bdR (z_PkR hk hx), z_bdR (z_PnR hq hz), z_lsA ha]
theorem z_RF3 (hn : ¬ fr = 0) (hr : r = 0) (hf : z_fa F G 3 a) : z_RK 4 f t m a cl nl cp np cu nu ms fr r a9 cl' nl' cp' np' cu' nu' ms' fr' F G := by
  refine Or.inr ⟨hr, ?_⟩
  show z_fFa f t m (z_ls cl nl, z_ls cp np, z_ls cu nu, ms, fr) a = _
  rw [z_fFaU, z_ifT hn, hf.1, hf.2]
theorem z_RF0 (hn : fr = 0) (hq : z_Pn f t m 1 5 a1 z a2 F G) (hz : z = -1) (hs : z_SA f t m a a1) (hr : r = 0) : z_RK 4 f t m a cl nl cp np cu nu ms fr r a9 cl' nl' cp' np' cu' nu' ms' fr' F G := by
  refine Or.inr ⟨hr, ?_⟩
  show z_fFa f t m (z_ls cl nl, z_ls cp np, z_ls cu nu, ms, fr) a = _
  rw [z_fFaU, z_ifF (show ¬ ¬ fr = 0 from fun q => q hn), z_nxtE hs]
  exact z_bdL (z_PnL hq hz)
theorem z_RF1 (hn : fr = 0) (hq : z_Pn f t m 1 5 a1 z a2 F G) (hz : ¬ z = -1) (hs : z_SA f t m a a1) (hr : r = 1) : z_RK 4 f t m a cl nl cp np cu nu ms fr r a2 cl nl cp np cu nu ms z F G := by
  refine Or.inl ⟨hr, z_PnF hq hz, ?_⟩
  show z_fFa f t m (z_ls cl nl, z_ls cp np, z_ls cu nu, ms, fr) a = .inr ((z_ls cl nl, z_ls cp np, z_ls cu nu, ms, z), a2)
  rw [z_fFaU, z_ifF (show ¬ ¬ fr = 0 from fun q => q hn), z_nxtE hs, z_bdR (z_PnR hq hz)]
end
theorem z_PsF {f : Nat → Int32} {t m a x r a9 F G : Int32} (h : z_Ps f t m a x r a9 F G) (hr : r = 1) : z_z0 F := h.elim (fun q => q.2.1) (fun q => by rw [hr] at q; exact absurd q.1 (by decide))
theorem z_RKF {k : Nat} {f : Nat → Int32} {t m a r a9 F G ms fr ms' fr' nl np nu nl' np' nu' : Int32} {cl cp cu cl' cp' cu' : Nat → Int64} (h : z_RK k f t m a cl nl cp np cu nu ms fr r a9 cl' nl' cp' np' cu' nu' ms' fr' F G) (hr : r = 1) : z_z0 F := h.elim (fun q => q.2.1) (fun q => by rw [hr] at q; exact absurd q.1 (by decide))
