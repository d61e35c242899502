/-! rows of constants of Word; what a token's kind says of its word -/
def z_wq (ad : Nat → Nat) (f : Nat → Option Nat) : Prop := ∀ i, f i = none ∨ ∃ w, w < 22 ∧ f i = some (ad w)
theorem z_wqu {ad : Nat → Nat} {f : Nat → Option Nat} {i w : Nat} (h : z_wq ad f) (hw : w < 22) : z_wq ad (va_up f i (some (ad w))) := by
  intro j
  by_cases e : j = i
  · subst e
    exact Or.inr ⟨w, hw, by simp [va_up]⟩
  · rcases h j with q | ⟨v, hv, q⟩
    · exact Or.inl (by simp [va_up, e, q])
    · exact Or.inr ⟨v, hv, by simp [va_up, e, q]⟩
theorem z_wqn {ad : Nat → Nat} {f : Nat → Option Nat} {i : Nat} (h : z_wq ad f) : z_wq ad (va_up f i none) := by
  intro j
  by_cases e : j = i
  · subst e
    exact Or.inl (by simp [va_up])
  · rcases h j with q | ⟨v, hv, q⟩
    · exact Or.inl (by simp [va_up, e, q])
    · exact Or.inr ⟨v, hv, by simp [va_up, e, q]⟩
theorem z_clw {a b : Int} {x : Int32} {n : Nat} (h : z_in a b x) (h0 : decide (0 ≤ a) = true) (h1 : decide (b < n) = true) : x.toNatClampNeg < n := by
  obtain ⟨p, q⟩ := h
  have h0 := of_decide_eq_true h0
  have h1 := of_decide_eq_true h1
  have e : x.toNatClampNeg = x.toInt.toNat := rfl
  omega
theorem z_anyW {ad : Nat → Nat} {A : Nat → Prop} {s : State} {H : Heap} {locs : List Loc} {i : Nat} (hE : z_W ad A s s.heap) (hi : i < 22) (hS : va_S A s.heap H locs) : va_Any z_E s H (ad i) := by
  obtain ⟨cell, h1, h2, h3⟩ := va_recvE hE.1 (i := i) hi hS
  obtain ⟨kC, hkC, -⟩ := Vm.findClass_spec h3
  exact ⟨cell, h1, h2, ⟨kC, hkC⟩, fun comp h => by
    rw [Option.some.inj (h3.symm.trans h)]
    exact va_asg _ _⟩
def z_tk (k : Int32) (w : Nat) : Prop := k ≠ 4 → w = 0
theorem z_tk0 (k : Int32) : z_tk k 0 := fun _ => rfl
theorem z_tk4 {k : Int32} (w : Nat) (h : z_in 4 4 k) : z_tk k w := fun q => absurd (Int32.toInt_inj.mp ((show k.toInt = 4 from Int.le_antisymm h.2 h.1).trans rfl)) q
theorem z_tkw {k : Int32} {w : Nat} {a b : Int} (h : z_tk k w) (hk : z_in a b k) (hd : decide (b < 4) = true) : w = 0 := h (fun e => by
  have := of_decide_eq_true hd
  have h2 := hk.2
  rw [e] at h2
  have e4 : (4 : Int32).toInt = 4 := rfl
  omega)
def z_wne (w k : Nat) : Prop := w ≠ k
def z_wj (w : Nat) : Prop := w = 13 ∨ w = 12
def z_weq (w k : Nat) : Prop := w = k
/-- a step 'with' bears an umbrella's number -/
def z_ws (w : Nat) (x : Int32) : Prop := w = 18 → z_in 0 5 x
def z_wt (ad : Nat → Nat) (f : Nat → Option Nat) (g : Nat → Int32) : Prop := ∀ i, f i = some (ad 18) → z_in 0 5 (g i)
abbrev z_inj (ad : Nat → Nat) : Prop := ∀ i j, i < 22 → j < 22 → ad i = ad j → i = j
theorem z_wtu {ad : Nat → Nat} {f : Nat → Option Nat} {g : Nat → Int32} {j w : Nat} {x : Int32} (hj : z_inj ad) (h : z_wt ad f g) (hw : w < 22) (hx : z_ws w x) : z_wt ad (va_up f j (some (ad w))) (upd g j x) := by
  intro i e
  by_cases q : i = j
  · subst q
    have e : ad w = ad 18 := by simpa [va_up] using e
    have e := hx (hj _ _ hw (by decide) e)
    simpa [upd] using e
  · have e : f i = some (ad 18) := by simpa [va_up, q] using e
    have e := h i e
    simpa [upd, q] using e
theorem z_wtn {ad : Nat → Nat} {f : Nat → Option Nat} {g : Nat → Int32} {j : Nat} {x : Int32} (h : z_wt ad f g) : z_wt ad (va_up f j none) (upd g j x) := by
  intro i e
  by_cases q : i = j
  · subst q
    simp [va_up] at e
  · have e : f i = some (ad 18) := by simpa [va_up, q] using e
    have e := h i e
    simpa [upd, q] using e
theorem z_wtg {ad : Nat → Nat} {f : Nat → Option Nat} {g : Nat → Int32} {j w : Nat} {x : Int32} (h : z_wt ad f g) (e : f j = some (ad w)) (hw : w = 18) (ex : x = g j) : z_in 0 5 x := by
  subst hw
  rw [ex]
  exact h j e
/-- what a line of a book says of its last number -/
def z_bs (w : Nat) (x : Int32) : Prop := (w = 7 → z_in 0 4 x) ∧ (w = 8 → z_in 0 5 x) ∧ (w = 9 → z_in 0 5 x)
def z_bk (ad : Nat → Nat) (f : Nat → Option Nat) (g : Nat → Int32) : Prop := ∀ i w, w < 22 → f i = some (ad w) → z_bs w (g i)
theorem z_bku {ad : Nat → Nat} {f : Nat → Option Nat} {g : Nat → Int32} {j w : Nat} {x : Int32} (hj : z_inj ad) (h : z_bk ad f g) (hw : w < 22) (hx : z_bs w x) : z_bk ad (va_up f j (some (ad w))) (upd g j x) := by
  intro i v hv e
  by_cases q : i = j
  · subst q
    have e : ad w = ad v := by simpa [va_up] using e
    have e := hj _ _ hw hv e
    subst e
    simpa [upd] using hx
  · have e : f i = some (ad v) := by simpa [va_up, q] using e
    have e := h i v hv e
    simpa [upd, q] using e
theorem z_bkg {ad : Nat → Nat} {f : Nat → Option Nat} {g : Nat → Int32} {j w : Nat} {x : Int32} (h : z_bk ad f g) (hw : w < 22) (e : f j = some (ad w)) (ex : x = g j) : z_bs w x := by
  rw [ex]
  exact h j w hw e
/-- how many of the first n are no joints -/
def z_cn (ad : Nat → Nat) (f : Nat → Option Nat) : Nat → Nat
  | 0 => 0
  | n + 1 => z_cn ad f n + (if f n = some (ad 13) ∨ f n = some (ad 12) then 0 else 1)
def z_wc (ad : Nat → Nat) (f : Nat → Option Nat) (n k : Int32) : Prop := k.toInt = (z_cn ad f n.toNatClampNeg : Int)
def z_wcm (ad : Nat → Nat) (f : Nat → Option Nat) (n k : Int32) : Prop := k.toInt - 1 = (z_cn ad f n.toNatClampNeg : Int)
def z_tp (ad : Nat → Nat) (f : Nat → Option Nat) (n : Int32) : Prop := n.toInt = 0 ∨ (f (n.toNatClampNeg - 1) ≠ some (ad 13) ∧ f (n.toNatClampNeg - 1) ≠ some (ad 12))
def z_sm (n i : Int32) : Prop := n.toInt + i.toInt ≤ 40
def z_iw (r wo wi : Int32) : Prop := r = 0 → wo.toInt = 0 → wi ≠ 0
theorem z_tnc {n : Int32} : n.toNatClampNeg = n.toInt.toNat := rfl
theorem z_cnu {ad : Nat → Nat} {f : Nat → Option Nat} {v : Option Nat} {j : Nat} : ∀ {n : Nat}, n ≤ j → z_cn ad (va_up f j v) n = z_cn ad f n
  | 0, _ => rfl
  | n + 1, h => by
    have e : va_up f j v n = f n := by
      have : n ≠ j := by omega
      simp [va_up, this]
    rw [z_cn, z_cn, z_cnu (by omega), e]
theorem z_wc0 {ad : Nat → Nat} {f : Nat → Option Nat} : z_wc ad f 0 0 := rfl
theorem z_wcS {ad : Nat → Nat} {f : Nat → Option Nat} {n y : Int32} (ty : y.toInt = n.toInt + -1) (hy : 0 ≤ y.toInt) : n.toNatClampNeg = y.toNatClampNeg + 1 := by
  rw [z_tnc, z_tnc]
  omega
theorem z_wcN {ad : Nat → Nat} {f : Nat → Option Nat} {n y k k' : Int32} (h : z_wc ad f n k) (ty : y.toInt = n.toInt + -1) (hy : 0 ≤ y.toInt) (h13 : f y.toNatClampNeg ≠ some (ad 13)) (h12 : f y.toNatClampNeg ≠ some (ad 12)) (ek : k' = k - 1) : z_wc ad f y k' := by
  unfold z_wc at h ⊢
  rw [z_wcS (ad := ad) (f := f) ty hy, z_cn, if_neg (fun q => q.elim h13 h12)] at h
  have hb := (z_any k).2
  have e := z_subT (x := k) (y := 1) (a := 1) (b := 2147483647) (c := 1) (d := 1) ⟨by omega, hb⟩ ⟨by decide, by decide⟩ rfl
  have e1 : (1 : Int32).toInt = 1 := rfl
  rw [ek, e, e1]
  omega
theorem z_wcJ {ad : Nat → Nat} {f : Nat → Option Nat} {n y k : Int32} (h : z_wc ad f n k) (ty : y.toInt = n.toInt + -1) (hy : 0 ≤ y.toInt) (hq : f y.toNatClampNeg = some (ad 13) ∨ f y.toNatClampNeg = some (ad 12)) : z_wc ad f y k := by
  unfold z_wc at h ⊢
  rw [z_wcS (ad := ad) (f := f) ty hy, z_cn, if_pos hq] at h
  exact h
theorem z_wcU {ad : Nat → Nat} {f : Nat → Option Nat} {n n' k : Int32} {w : Nat} (hj : z_inj ad) (h : z_wcm ad f n k) (hn : 0 ≤ n.toInt) (hw : w < 22) (h13 : w ≠ 13) (h12 : w ≠ 12) (tn : n'.toInt = n.toInt + 1) : z_wc ad (va_up f n.toNatClampNeg (some (ad w))) n' k := by
  unfold z_wcm at h
  unfold z_wc
  have e : n'.toNatClampNeg = n.toNatClampNeg + 1 := by rw [z_tnc, z_tnc]; omega
  have e2 : va_up f n.toNatClampNeg (some (ad w)) n.toNatClampNeg = some (ad w) := by simp [va_up]
  rw [e, z_cn, z_cnu (Nat.le_refl _), e2, if_neg (fun q => q.elim (fun q => h13 (hj _ _ hw (by decide) (Option.some.inj q))) (fun q => h12 (hj _ _ hw (by decide) (Option.some.inj q))))]
  omega
theorem z_wcV {ad : Nat → Nat} {f : Nat → Option Nat} {n n' k : Int32} {w : Nat} (h : z_wc ad f n k) (hn : 0 ≤ n.toInt) (hq : w = 13 ∨ w = 12) (tn : n'.toInt = n.toInt + 1) : z_wc ad (va_up f n.toNatClampNeg (some (ad w))) n' k := by
  unfold z_wc at h ⊢
  have e : n'.toNatClampNeg = n.toNatClampNeg + 1 := by rw [z_tnc, z_tnc]; omega
  have e2 : va_up f n.toNatClampNeg (some (ad w)) n.toNatClampNeg = some (ad w) := by simp [va_up]
  rw [e, z_cn, z_cnu (Nat.le_refl _), e2, if_pos (hq.elim (fun q => Or.inl (by rw [q])) (fun q => Or.inr (by rw [q])))]
  omega
theorem z_wcM {ad : Nat → Nat} {f : Nat → Option Nat} {n k k' : Int32} (h : z_wc ad f n k) (tk : k'.toInt = k.toInt + 1) : z_wcm ad f n k' := by
  unfold z_wc at h
  unfold z_wcm
  omega
theorem z_wcn {ad : Nat → Nat} {f : Nat → Option Nat} {n k : Int32} {b : Int} (h : z_wc ad f n k) (hn : z_in 0 b n) (hk : k ≠ 0) : z_in 1 b n := by
  refine ⟨?_, hn.2⟩
  have h0 := hn.1
  by_cases q : n.toInt = 0
  · unfold z_wc at h
    have e : n.toNatClampNeg = 0 := by rw [z_tnc]; omega
    rw [e] at h
    exact absurd (Int32.toInt_inj.mp (h.trans rfl)) hk
  · omega
theorem z_wcp {ad : Nat → Nat} {f : Nat → Option Nat} {n y k k' : Int32} (h : z_wc ad f n k) (ht : z_tp ad f n) (ty : y.toInt = n.toInt + -1) (hy : 0 ≤ y.toInt) (ek : k' = k - 1) : z_wc ad f y k' := by
  rcases ht with q | ⟨q1, q2⟩
  · omega
  · have e : n.toNatClampNeg - 1 = y.toNatClampNeg := by rw [z_wcS (ad := ad) (f := f) ty hy]; rfl
    rw [e] at q1 q2
    exact z_wcN h ty hy q1 q2 ek
theorem z_tpE {ad : Nat → Nat} {f : Nat → Option Nat} {n y : Int32} (ty : y.toInt = n.toInt + -1) (hy : 0 ≤ y.toInt) (q1 : f y.toNatClampNeg ≠ some (ad 13)) (q2 : f y.toNatClampNeg ≠ some (ad 12)) : z_tp ad f n := by
  have e : n.toNatClampNeg - 1 = y.toNatClampNeg := by rw [z_wcS (ad := ad) (f := f) ty hy]; rfl
  refine Or.inr ?_
  rw [e]
  exact ⟨q1, q2⟩
theorem z_neW {ad : Nat → Nat} {f : Nat → Option Nat} {j w k : Nat} (hj : z_inj ad) (e : f j = some (ad w)) (hw : w < 22) (hk : k < 22) (h : w ≠ k) : f j ≠ some (ad k) := fun q => h (hj _ _ hw hk (Option.some.inj (e.symm.trans q)))
theorem z_neN {ad : Nat → Nat} {f : Nat → Option Nat} {j k : Nat} (e : f j = none) : f j ≠ some (ad k) := by
  rw [e]
  intro q
  cases q
theorem z_upE {f : Nat → Option Nat} {i j : Nat} {v : Option Nat} (h : j = i) : va_up f i v j = v := by simp [va_up, h]
theorem z_upN {f : Nat → Option Nat} {i j : Nat} {v : Option Nat} (h : j ≠ i) : va_up f i v j = f j := by simp [va_up, h]
def z_rw8 (f : Nat → Option Nat) (a b c d e g h i : Nat) : Prop := f 0 = some a ∧ f 1 = some b ∧ f 2 = some c ∧ f 3 = some d ∧ f 4 = some e ∧ f 5 = some g ∧ f 6 = some h ∧ f 7 = some i
def z_ro8 (f : Nat → Option Nat) (a b c d e g h i : Nat) : Prop := z_rw8 f a b c d e g h i ∨ z_rw8 f b c d e g h i a
