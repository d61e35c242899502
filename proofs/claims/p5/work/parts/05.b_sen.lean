section
variable {f : Nat → Int32} {t m k a v b : Int32} {c : Int64} {w : Nat}
theorem z_ctWx (h : z_ctk z_cds f t m k a v c w b) : z_wx f t m a = w := by
  refine z_wxE ?_
  by_cases hk : k = 4
  · obtain ⟨l, q⟩ := z_ctk4 h hk
    rcases q with ⟨e, n⟩ | ⟨h1, h2, e⟩
    · exact Or.inl ⟨e, fun i i1 i2 s => n i i1 i2 (z_TlE l s)⟩
    · rw [e] at l
      exact Or.inr ⟨h1, h2, l⟩
  · have n := z_ctk4n h hk
    refine Or.inl ⟨?_, fun i _ _ => n _⟩
    obtain ⟨-, h⟩ := h
    rcases h with ⟨-, e, -⟩ | ⟨-, -, -, q⟩
    · exact e
    · rcases q with q | q | q | q
      · exact q.2.1
      · exact q.2.1
      · exact absurd q.1 hk
      · exact q.2.1
def z_bgq (r : Int32) (w : Nat) : Prop := (r = 1 ∧ z_bg w) ∨ (r = 0 ∧ ¬ z_bg w)
def z_cnS (w : Nat) : Prop := w = 19 ∨ w = 20 ∨ w = 21
def z_csq (r : Int32) (w : Nat) : Prop := (r = 1 ∧ z_cnS w) ∨ (r = 0 ∧ ¬ z_cnS w)
theorem z_csA {w : Nat} (h : w = 19) : z_csq 1 w := Or.inl ⟨rfl, Or.inl h⟩
theorem z_csB {w : Nat} (h : w = 20) : z_csq 1 w := Or.inl ⟨rfl, Or.inr (Or.inl h)⟩
theorem z_csD {w : Nat} (h : w = 21) : z_csq 1 w := Or.inl ⟨rfl, Or.inr (Or.inr h)⟩
theorem z_csO {w : Nat} (h1 : w ≠ 19) (h2 : w ≠ 20) (h3 : w ≠ 21) : z_csq 0 w := Or.inr ⟨rfl, fun q => q.elim h1 (fun q => q.elim h2 h3)⟩
theorem z_csC {w : Nat} {q : Int32} (h : z_csq q w) (e : q = 0) : z_csq 0 w := Or.inr ⟨rfl, z_qF h e⟩
theorem z_bg1 {w : Nat} {i : Nat} (hi : decide (i = 14 ∨ i = 3 ∨ i = 15 ∨ i = 16 ∨ i = 17 ∨ i = 18 ∨ i = 19 ∨ i = 20 ∨ i = 21) = true) (h : w = i) : z_bgq 1 w := by
  have hi := of_decide_eq_true hi
  rw [← h] at hi
  exact Or.inl ⟨rfl, hi⟩
theorem z_bg2 {w : Nat} {q : Int32} (h : z_csq q w) (e : q = 1) : z_bgq 1 w := by
  rcases h with ⟨-, h⟩ | ⟨h, -⟩
  · refine Or.inl ⟨rfl, ?_⟩
    unfold z_bg
    rcases h with h | h | h
    · omega
    · omega
    · omega
  · rw [e] at h
    exact absurd h (by decide)
theorem z_bg0 {w : Nat} {q : Int32} (h14 : w ≠ 14) (h3 : w ≠ 3) (h15 : w ≠ 15) (h16 : w ≠ 16) (h17 : w ≠ 17) (h18 : w ≠ 18) (h : z_csq q w) (e : q = 0) : z_bgq 0 w := by
  rcases h with ⟨h, -⟩ | ⟨-, h⟩
  · rw [e] at h
    exact absurd h (by decide)
  · refine Or.inr ⟨rfl, fun s => ?_⟩
    unfold z_bg at s
    unfold z_cnS at h
    omega
def z_st9 (f : Nat → Int32) (t m a : Int32) : Prop := ¬ (¬ z_TS f t m a 40 ∧ ¬ z_bg (z_wx f t m a))
theorem z_st9S {q : Int32} (h : z_SS q f t m a 40) (e : q = 1) : z_st9 f t m a := fun s => s.1 (z_qT h e)
theorem z_st9W {q : Int32} (h : z_ctk z_cds f t m k a v c w b) (hb : z_bgq q w) (e : q = 1) : z_st9 f t m a := fun s => s.2 (by rw [z_ctWx h]; exact z_qT hb e)
theorem z_nsS {x q : Int32} (h : z_SS q f t m a x) (e : q = 1) : z_ns t m a := (z_qT h e).1
theorem z_bg11 (h : z_bg w) : 1 ≤ w := by
  unfold z_bg at h
  omega
theorem z_nsB {q : Int32} (h : z_ctk z_cds f t m k a v c w b) (hb : z_bgq q w) (e : q = 1) : z_ns t m a := (z_ctkw h (z_bg11 (z_qT hb e)) rfl).1
end
def z_wk (ad : Nat → Nat) (v : Option Nat) : Nat := if v = some (ad 14) then 0 else if v = some (ad 13) then 1 else if v = some (ad 12) then 2 else 3
def z_wL (ad : Nat → Nat) (g : Nat → Option Nat) : Nat → List Nat
  | 0 => []
  | n + 1 => z_wk ad (g n) :: z_wL ad g n
def z_cw (w : Nat) : Nat := if w = 14 then 0 else if w = 13 then 1 else if w = 12 then 2 else 3
theorem z_adE {ad : Nat → Nat} (hj : z_inj ad) {i j : Nat} (hi : i < 22) (h : j < 22) : some (ad i) = some (ad j) ↔ i = j := ⟨fun e => hj i j hi h (Option.some.inj e), fun e => by rw [e]⟩
theorem z_wkW {ad : Nat → Nat} (hj : z_inj ad) {w : Nat} (hw : w < 22) : z_wk ad (some (ad w)) = z_cw w := by
  unfold z_wk z_cw
  by_cases c : w = 14
  · rw [if_pos (show some (ad w) = some (ad 14) by rw [c]), if_pos c]
  · rw [if_neg (show ¬ some (ad w) = some (ad 14) from fun s => c ((z_adE hj hw (by decide)).mp s)), if_neg c]
    by_cases d : w = 13
    · rw [if_pos (show some (ad w) = some (ad 13) by rw [d]), if_pos d]
    · rw [if_neg (show ¬ some (ad w) = some (ad 13) from fun s => d ((z_adE hj hw (by decide)).mp s)), if_neg d]
      by_cases e : w = 12
      · rw [if_pos (show some (ad w) = some (ad 12) by rw [e]), if_pos e]
      · rw [if_neg (show ¬ some (ad w) = some (ad 12) from fun s => e ((z_adE hj hw (by decide)).mp s)), if_neg e]
theorem z_wLu {ad : Nat → Nat} {g : Nat → Option Nat} {v : Option Nat} {j : Nat} : ∀ {n : Nat}, n ≤ j → z_wL ad (va_up g j v) n = z_wL ad g n
  | 0, _ => rfl
  | n + 1, h => by
    have e : va_up g j v n = g n := by
      have : n ≠ j := by omega
      simp [va_up, this]
    show z_wk ad (va_up g j v n) :: z_wL ad (va_up g j v) n = z_wk ad (g n) :: z_wL ad g n
    rw [z_wLu (by omega), e]
theorem z_wLl {ad : Nat → Nat} {g : Nat → Option Nat} : ∀ (n : Nat), (z_wL ad g n).length = n
  | 0 => rfl
  | n + 1 => by
    show (z_wk ad (g n) :: z_wL ad g n).length = n + 1
    rw [List.length_cons, z_wLl n]
theorem z_wkJ {ad : Nat → Nat} (hj : z_inj ad) {v : Option Nat} : (z_wk ad v = 1 ∨ z_wk ad v = 2) ↔ (v = some (ad 13) ∨ v = some (ad 12)) := by
  have e1 : ¬ some (ad 13) = some (ad 14) := fun q => absurd ((z_adE hj (by decide) (by decide)).mp q) (by decide)
  have e2 : ¬ some (ad 12) = some (ad 14) := fun q => absurd ((z_adE hj (by decide) (by decide)).mp q) (by decide)
  have e3 : ¬ some (ad 12) = some (ad 13) := fun q => absurd ((z_adE hj (by decide) (by decide)).mp q) (by decide)
  unfold z_wk
  by_cases q14 : v = some (ad 14)
  · rw [if_pos q14]
    refine ⟨fun h => ?_, fun h => ?_⟩
    · exact absurd h (by decide)
    · rw [q14] at h
      rcases h with h | h
      · exact absurd h.symm e1
      · exact absurd h.symm e2
  · rw [if_neg q14]
    by_cases q13 : v = some (ad 13)
    · rw [if_pos q13]
      exact ⟨fun _ => Or.inl q13, fun _ => Or.inl rfl⟩
    · rw [if_neg q13]
      by_cases q12 : v = some (ad 12)
      · rw [if_pos q12]
        exact ⟨fun _ => Or.inr q12, fun _ => Or.inr rfl⟩
      · rw [if_neg q12]
        refine ⟨fun h => ?_, fun h => h.elim (fun q => absurd q q13) (fun q => absurd q q12)⟩
        exact absurd h (by decide)
theorem z_cnL {ad : Nat → Nat} (hj : z_inj ad) {g : Nat → Option Nat} : ∀ (n : Nat), z_cn ad g n = z_kt (z_wL ad g n)
  | 0 => rfl
  | n + 1 => by
    show z_cn ad g n + (if g n = some (ad 13) ∨ g n = some (ad 12) then 0 else 1) = z_kt (z_wL ad g n) + (if z_wk ad (g n) = 1 ∨ z_wk ad (g n) = 2 then 0 else 1)
    rw [z_cnL hj n]
    by_cases q : g n = some (ad 13) ∨ g n = some (ad 12)
    · rw [if_pos q, if_pos ((z_wkJ hj).mpr q)]
    · rw [if_neg q, if_neg (fun s => q ((z_wkJ hj).mp s))]
def z_K (ad : Nat → Nat) (g : Nat → Option Nat) (n : Int32) : List Nat := z_wL ad g n.toNatClampNeg
theorem z_K0 {ad : Nat → Nat} {g : Nat → Option Nat} {n : Int32} (h : n.toInt ≤ 0) : z_K ad g n = [] := by
  have e : n.toNatClampNeg = 0 := by rw [z_tnc]; omega
  unfold z_K
  rw [e] <;> rfl
theorem z_KS {ad : Nat → Nat} {g : Nat → Option Nat} {n y : Int32} (ty : y.toInt = n.toInt + -1) (hy : 0 ≤ y.toInt) : z_K ad g n = z_wk ad (g y.toNatClampNeg) :: z_K ad g y := by
  unfold z_K
  rw [z_wcS (ad := ad) (f := g) ty hy] <;> rfl
theorem z_KL {ad : Nat → Nat} {g : Nat → Option Nat} {n : Int32} (h : 0 ≤ n.toInt) : ((z_K ad g n).length : Int) = n.toInt := by
  unfold z_K
  rw [z_wLl, z_tnc] <;> omega
theorem z_wcK {ad : Nat → Nat} (hj : z_inj ad) {g : Nat → Option Nat} {n k : Int32} (h : z_wc ad g n k) : (z_kt (z_K ad g n) : Int) = k.toInt := by
  unfold z_wc at h
  unfold z_K
  rw [h, z_cnL hj]
def z_dnr (ad : Nat → Nat) (g : Nat → Option Nat) (n n' : Int32) : Prop := z_K ad g n' = z_dn (z_K ad g n)
def z_dnI (ad : Nat → Nat) (g : Nat → Option Nat) (n n' : Int32) : Prop := z_dn (z_K ad g n') = z_dn (z_K ad g n)
theorem z_dnIr {ad : Nat → Nat} {g : Nat → Option Nat} {n : Int32} : z_dnI ad g n n := rfl
theorem z_dnIS {ad : Nat → Nat} {g : Nat → Option Nat} {n0 n y : Int32} (hI : z_dnI ad g n0 n) (ty : y.toInt = n.toInt + -1) (hy : 0 ≤ y.toInt) (e : g y.toNatClampNeg = some (ad 14)) : z_dnI ad g n0 y := by
  unfold z_dnI at hI ⊢
  rw [← hI, z_KS ty hy, z_dnT (by rw [e]; exact if_pos rfl)]
theorem z_dnr0 {ad : Nat → Nat} {g : Nat → Option Nat} {n0 n : Int32} (hI : z_dnI ad g n0 n) (h : n.toInt ≤ 0) : z_dnr ad g n0 n := by
  unfold z_dnI at hI
  unfold z_dnr
  rw [← hI, z_K0 h] <;> rfl
theorem z_dnrN {ad : Nat → Nat} {g : Nat → Option Nat} {n0 n y : Int32} (hI : z_dnI ad g n0 n) (ty : y.toInt = n.toInt + -1) (hy : 0 ≤ y.toInt) (e : g y.toNatClampNeg ≠ some (ad 14)) : z_dnr ad g n0 n := by
  unfold z_dnI at hI
  unfold z_dnr
  have q : ¬ z_wk ad (g y.toNatClampNeg) = 0 := by
    unfold z_wk
    rw [if_neg e]
    split
    · decide
    · split <;> decide
  rw [← hI, z_KS ty hy, z_dnF q]
def z_djr (o : Nat) (ad : Nat → Nat) (g : Nat → Option Nat) (n n' : Int32) : Prop := z_K ad g n' = z_dj o (z_K ad g n)
def z_djI (o : Nat) (ad : Nat → Nat) (g : Nat → Option Nat) (n n' : Int32) : Prop := z_dj o (z_K ad g n') = z_dj o (z_K ad g n)
theorem z_djIr {o : Nat} {ad : Nat → Nat} {g : Nat → Option Nat} {n : Int32} : z_djI o ad g n n := rfl
theorem z_wk13 {ad : Nat → Nat} (hj : z_inj ad) : z_wk ad (some (ad 13)) = 1 := z_wkW hj (by decide)
theorem z_wk12 {ad : Nat → Nat} (hj : z_inj ad) : z_wk ad (some (ad 12)) = 2 := z_wkW hj (by decide)
theorem z_djIA {o : Nat} {ad : Nat → Nat} (hj : z_inj ad) {g : Nat → Option Nat} {n0 n y : Int32} (hI : z_djI o ad g n0 n) (ty : y.toInt = n.toInt + -1) (hy : 0 ≤ y.toInt) (e : g y.toNatClampNeg = some (ad 13)) : z_djI o ad g n0 y := by
  unfold z_djI at hI ⊢
  rw [← hI, z_KS ty hy, z_djT (Or.inl (by rw [e]; exact z_wk13 hj))]
theorem z_djIO {ad : Nat → Nat} (hj : z_inj ad) {g : Nat → Option Nat} {n0 n y : Int32} (hI : z_djI 2 ad g n0 n) (ty : y.toInt = n.toInt + -1) (hy : 0 ≤ y.toInt) (e : g y.toNatClampNeg = some (ad 12)) : z_djI 2 ad g n0 y := by
  unfold z_djI at hI ⊢
  rw [← hI, z_KS ty hy, z_djT (Or.inr ⟨by rw [e]; exact z_wk12 hj, rfl⟩)]
theorem z_djr0 {o : Nat} {ad : Nat → Nat} {g : Nat → Option Nat} {n0 n : Int32} (hI : z_djI o ad g n0 n) (h : n.toInt ≤ 0) : z_djr o ad g n0 n := by
  unfold z_djI at hI
  unfold z_djr
  rw [← hI, z_K0 h] <;> rfl
theorem z_djr2 {ad : Nat → Nat} (hj : z_inj ad) {g : Nat → Option Nat} {n0 n y : Int32} (hI : z_djI 2 ad g n0 n) (ty : y.toInt = n.toInt + -1) (hy : 0 ≤ y.toInt) (e13 : g y.toNatClampNeg ≠ some (ad 13)) (e12 : g y.toNatClampNeg ≠ some (ad 12)) : z_djr 2 ad g n0 n := by
  unfold z_djI at hI
  unfold z_djr
  have q : ¬ (z_wk ad (g y.toNatClampNeg) = 1 ∨ (z_wk ad (g y.toNatClampNeg) = 2 ∧ 2 = 2)) := fun s => by
    rcases (z_wkJ hj).mp (s.elim Or.inl (fun s => Or.inr s.1)) with s | s
    · exact e13 s
    · exact e12 s
  rw [← hI, z_KS ty hy, z_djF q]
theorem z_djr1 {ad : Nat → Nat} (hj : z_inj ad) {g : Nat → Option Nat} {n0 n y : Int32} (hI : z_djI 1 ad g n0 n) (ty : y.toInt = n.toInt + -1) (hy : 0 ≤ y.toInt) (e13 : g y.toNatClampNeg ≠ some (ad 13)) : z_djr 1 ad g n0 n := by
  unfold z_djI at hI
  unfold z_djr
  have q : ¬ (z_wk ad (g y.toNatClampNeg) = 1 ∨ (z_wk ad (g y.toNatClampNeg) = 2 ∧ 1 = 2)) := fun s => by
    rcases s with s | s
    · rcases (z_wkJ hj).mp (Or.inl s) with q | q
      · exact e13 q
      · rw [q, z_wk12 hj] at s
        exact absurd s (by decide)
    · exact absurd s.2 (by decide)
  rw [← hI, z_KS ty hy, z_djF q]
def z_suc (a b : Int32) : Prop := b.toInt = a.toInt + 1
def z_psh (ad : Nat → Nat) (g : Nat → Option Nat) (n : Int32) (g' : Nat → Option Nat) (n' : Int32) (w : Nat) : Prop := z_K ad g' n' = z_cw w :: z_K ad g n
theorem z_pshI {ad : Nat → Nat} (hj : z_inj ad) {g g' : Nat → Option Nat} {n n' : Int32} {w : Nat} (hn : 0 ≤ n.toInt) (tn : n'.toInt = n.toInt + 1) (hw : w < 22) (e : va_up g n.toNatClampNeg (some (ad w)) = g') : z_psh ad g n g' n' w := by
  have e1 : n'.toNatClampNeg = n.toNatClampNeg + 1 := by rw [z_tnc, z_tnc]; omega
  have e2 : va_up g n.toNatClampNeg (some (ad w)) n.toNatClampNeg = some (ad w) := by simp [va_up]
  unfold z_psh z_K
  rw [e1, ← e]
  show z_wk ad (va_up g n.toNatClampNeg (some (ad w)) n.toNatClampNeg) :: z_wL ad (va_up g n.toNatClampNeg (some (ad w))) n.toNatClampNeg = _
  rw [e2, z_wkW hj hw, z_wLu (Nat.le_refl _)]
def z_l1 (l l' : Int32) : Prop := l'.toInt ≤ l.toInt + 1
def z_nl9 (n l n' l' : Int32) : Prop := n'.toInt + l'.toInt ≤ n.toInt + l.toInt
def z_pt (n l o w : Int32) : Prop := n.toInt + l.toInt + (1 - w.toInt) ≤ 2 * o.toInt
def z_Cq (r : Int32) (f : Nat → Int32) (t m a : Int32) : Prop := (r = 1 ∧ (z_TS f t m a 60 ∨ z_TS f t m a 61 ∨ z_TS f t m a 62)) ∨ (r = 0 ∧ ¬ (z_TS f t m a 60 ∨ z_TS f t m a 61 ∨ z_TS f t m a 62))
section
variable {f : Nat → Int32} {t m k a v b a1 a2 a' r q q1 q2 q3 x F G F1 G1 o o' n n' n1 n2 n3 wi nl nu w9 w9' : Int32} {c : Int64} {w : Nat} {cl cu : Nat → Int64} {ad : Nat → Nat} {g g' : Nat → Option Nat}
theorem z_Cq1 (h : z_SS q f t m a 60) (e : q = 1) : z_Cq 1 f t m a := Or.inl ⟨rfl, Or.inl (z_qT h e)⟩
theorem z_Cq2 (h : z_SS q f t m a 61) (e : q = 1) : z_Cq 1 f t m a := Or.inl ⟨rfl, Or.inr (Or.inl (z_qT h e))⟩
theorem z_Cq3 (h : z_SS q f t m a 62) (e : q = 1) : z_Cq 1 f t m a := Or.inl ⟨rfl, Or.inr (Or.inr (z_qT h e))⟩
theorem z_Cq0 (h1 : z_SS q1 f t m a 60) (e1 : q1 = 0) (h2 : z_SS q2 f t m a 61) (e2 : q2 = 0) (h3 : z_SS q3 f t m a 62) (e3 : q3 = 0) : z_Cq 0 f t m a := Or.inr ⟨rfl, fun s => s.elim (z_qF h1 e1) (fun s => s.elim (z_qF h2 e2) (z_qF h3 e3))⟩
theorem z_nsC (h : z_Cq q f t m a) (e : q = 1) : z_ns t m a := by
  rcases z_qT h e with s | s | s
  · exact s.1
  · exact s.1
  · exact s.1
def z_Cm (r : Int32) (f : Nat → Int32) (t m a a' F G : Int32) : Prop := (r = 1 ∧ z_z0 F ∧ z_fCp f t m a = .inr a') ∨ (r = 0 ∧ z_fCp f t m a = .inl (F, G))
theorem z_Cm1 (hr : r = 0) (h : z_Cq q f t m a) (e : q = 0) (hf : z_fa F G 1 a) : z_Cm r f t m a a' F G := by
  refine Or.inr ⟨hr, ?_⟩
  unfold z_fCp
  rw [z_ifF (z_qF h e), hf.1, hf.2]
theorem z_Cm2 (hr : r = 0) (h : z_Cq q f t m a) (e : q = 1) (hs : z_SA f t m a a1) (hn : z_Pn f t m 0 999 a1 x a2 F G) (hx : x = -1) : z_Cm r f t m a a' F G := by
  refine Or.inr ⟨hr, ?_⟩
  unfold z_fCp
  rw [z_ifT (z_qT h e), z_nxtE hs]
  exact z_bdL (z_PnL hn hx)
theorem z_Cm3 (hr : r = 1) (h : z_Cq q f t m a) (e : q = 1) (hs : z_SA f t m a a1) (hn : z_Pn f t m 0 999 a1 x a2 F G) (hx : ¬ x = -1) : z_Cm r f t m a a2 F G := by
  refine Or.inl ⟨hr, z_PnF hn hx, ?_⟩
  unfold z_fCp
  rw [z_ifT (z_qT h e), z_nxtE hs, z_bdR (z_PnR hn hx)]
def z_LW (r : Int32) (f : Nat → Int32) (t m : Int32) (cl : Nat → Int64) (nl : Int32) (cu : Nat → Int64) (nu : Int32) (w : Nat) (a a' F G : Int32) : Prop := (r = 1 ∧ z_z0 F ∧ z_fLw f t m (z_ls cl nl) (z_ls cu nu) w a = .inr a') ∨ (r = 0 ∧ z_fLw f t m (z_ls cl nl) (z_ls cu nu) w a = .inl (F, G))
theorem z_LW17 (hr : r = 0) (hw : w = 17) (h : z_Pk f t m a cl nl x a1 F G) (hx : x = -1) : z_LW r f t m cl nl cu nu w a a' F G := by
  refine Or.inr ⟨hr, ?_⟩
  unfold z_fLw
  rw [z_ifT hw]
  exact z_bdL (z_PkL h hx)
theorem z_LW17s (hr : r = 1) (hw : w = 17) (h : z_Pk f t m a cl nl x a1 F G) (hx : ¬ x = -1) : z_LW r f t m cl nl cu nu w a a1 F G := by
  refine Or.inl ⟨hr, z_PkF h hx, ?_⟩
  unfold z_fLw
  rw [z_ifT hw, z_bdR (z_PkR h hx)]
theorem z_LW18 (hr : r = 0) (hw : w = 18) (h : z_Pk f t m a cu nu x a1 F G) (hx : x = -1) : z_LW r f t m cl nl cu nu w a a' F G := by
  refine Or.inr ⟨hr, ?_⟩
  unfold z_fLw
  rw [z_ifF (show ¬ w = 17 by omega), z_ifT hw]
  exact z_bdL (z_PkL h hx)
theorem z_LW18s (hr : r = 1) (hw : w = 18) (h : z_Pk f t m a cu nu x a1 F G) (hx : ¬ x = -1) : z_LW r f t m cl nl cu nu w a a1 F G := by
  refine Or.inl ⟨hr, z_PkF h hx, ?_⟩
  unfold z_fLw
  rw [z_ifF (show ¬ w = 17 by omega), z_ifT hw, z_bdR (z_PkR h hx)]
theorem z_LW0 (hr : r = 1) (h17 : w ≠ 17) (h18 : w ≠ 18) (h : z_csq q w) (e : q = 0) (hF : z_z0 F) : z_LW r f t m cl nl cu nu w a a F G := by
  refine Or.inl ⟨hr, hF, ?_⟩
  unfold z_fLw
  rw [z_ifF h17, z_ifF h18, z_ifF (show ¬ (w = 19 ∨ w = 20 ∨ w = 21) from z_qF h e)]
theorem z_LWc (h : z_csq q w) (e : q = 1) (hc : z_Cm r f t m a a' F G) : z_LW r f t m cl nl cu nu w a a' F G := by
  have s := z_qT h e
  have s' : w = 19 ∨ w = 20 ∨ w = 21 := s
  have n17 : ¬ w = 17 := by omega
  have n18 : ¬ w = 18 := by omega
  have eq : z_fLw f t m (z_ls cl nl) (z_ls cu nu) w a = z_fCp f t m a := by
    unfold z_fLw
    rw [z_ifF n17, z_ifF n18, z_ifT s']
  rcases hc with ⟨x, y, z⟩ | ⟨x, y⟩
  · exact Or.inl ⟨x, y, eq.trans z⟩
  · exact Or.inr ⟨x, eq.trans y⟩
def z_RO (ad : Nat → Nat) (r : Int32) (f : Nat → Int32) (t m : Int32) (cl : Nat → Int64) (nl : Int32) (cu : Nat → Int64) (nu o : Int32) (g : Nat → Option Nat) (n a o' : Int32) (g' : Nat → Option Nat) (n' w' a' F G : Int32) : Prop := (r = 1 ∧ z_z0 F ∧ z_fOn f t m (z_ls cl nl) (z_ls cu nu) o (z_K ad g n) a = .inr ((o', z_K ad g' n', w'), a')) ∨ (r = 0 ∧ z_fOn f t m (z_ls cl nl) (z_ls cu nu) o (z_K ad g n) a = .inl (F, G))
theorem z_RO1 (hr : r = 0) (h : z_SS q f t m a 40) (e : q = 0) (hc : z_ctk z_cds f t m k a v c w b) (hb : z_bgq q1 w) (e1 : q1 = 0) (hf : z_fa F G 1 a) : z_RO ad r f t m cl nl cu nu o g n a o' g' n' w9' a' F G := by
  refine Or.inr ⟨hr, ?_⟩
  unfold z_fOn
  rw [z_ifT ⟨z_qF h e, by rw [z_ctWx hc]; exact z_qF hb e1⟩, hf.1, hf.2]
theorem z_RO4a (hr : r = 0) (hs : z_st9 f t m a) (ho : z_in 20 20 o) (hf : z_fa F G 4 a) : z_RO ad r f t m cl nl cu nu o g n a o' g' n' w9' a' F G := by
  have o1 := ho.1
  refine Or.inr ⟨hr, ?_⟩
  unfold z_fOn
  rw [z_ifF hs, z_ifT (Or.inl (show 20 ≤ o.toInt from o1)), hf.1, hf.2]
theorem z_RO4b (hr : r = 0) (hs : z_st9 f t m a) (hj : z_inj ad) (hw : z_wc ad g n wi) (h8 : (8 : Int32) ≤ wi) (hf : z_fa F G 4 a) : z_RO ad r f t m cl nl cu nu o g n a o' g' n' w9' a' F G := by
  have e := z_wcK hj hw
  have h8 := Int32.le_iff_toInt_le.mp h8
  have e8 : (8 : Int32).toInt = 8 := rfl
  refine Or.inr ⟨hr, ?_⟩
  unfold z_fOn
  rw [z_ifF hs, z_ifT (Or.inr (show 8 ≤ z_kt (z_K ad g n) by omega)), hf.1, hf.2]
theorem z_ROn (ho : z_in 0 19 o) (hj : z_inj ad) (hw : z_wc ad g n wi) (h8 : wi < (8 : Int32)) : ¬ (20 ≤ o.toInt ∨ 8 ≤ z_kt (z_K ad g n)) := by
  have e := z_wcK hj hw
  have h8 := Int32.lt_iff_toInt_lt.mp h8
  have e8 : (8 : Int32).toInt = 8 := rfl
  have o2 := ho.2
  omega
theorem z_ROb (hr : r = 1) (h : z_SS q f t m a 40) (e : q = 1) (ho : z_in 0 19 o) (hj : z_inj ad) (hw : z_wc ad g n wi) (h8 : wi < (8 : Int32)) (hs : z_SA f t m a a1) (eo : o' = o + 1) (hp : z_psh ad g n g' n' w) (w0 : w = 0) (hF : z_z0 F) : z_RO ad r f t m cl nl cu nu o g n a o' g' n' 1 a1 F G := by
  have hp : z_K ad g' n' = z_cw w :: z_K ad g n := hp
  refine Or.inl ⟨hr, hF, ?_⟩
  unfold z_fOn
  rw [z_ifF (z_st9S h e), z_ifF (z_ROn ho hj hw h8), z_ifT (z_qT h e), z_nxtE hs, eo, hp, w0] <;> rfl
theorem z_ROt (hr : r = 1) (h : z_SS q f t m a 40) (e : q = 0) (hc : z_ctk z_cds f t m k a v c w b) (hb : w = 14) (ho : z_in 0 19 o) (hj : z_inj ad) (hw : z_wc ad g n wi) (h8 : wi < (8 : Int32)) (hs : z_SA f t m a a1) (eo : o' = o + 1) (hp : z_psh ad g n g' n' w) (hF : z_z0 F) : z_RO ad r f t m cl nl cu nu o g n a o' g' n' 1 a1 F G := by
  have hp : z_K ad g' n' = z_cw w :: z_K ad g n := hp
  have ex := z_ctWx hc
  have hst : z_st9 f t m a := fun s => s.2 (by rw [ex, hb]; exact Or.inl rfl)
  refine Or.inl ⟨hr, hF, ?_⟩
  unfold z_fOn
  rw [z_ifF hst, z_ifF (z_ROn ho hj hw h8), z_ifF (z_qF h e), z_ifT (ex.trans hb), z_nxtE hs, eo, hp, hb] <;> rfl
theorem z_ROl (h : z_SS q f t m a 40) (e : q = 0) (hc : z_ctk z_cds f t m k a v c w b) (hb : z_bgq q1 w) (e1 : q1 = 1) (h14 : w ≠ 14) (ho : z_in 0 19 o) (hj : z_inj ad) (hw : z_wc ad g n wi) (h8 : wi < (8 : Int32)) (hs : z_SA f t m a a1) (hl : z_LW r f t m cl nl cu nu w a1 a2 F G) (eo : o' = o + 1) (hd : z_dnr ad g n n') : z_RO ad r f t m cl nl cu nu o g n a o' g n' 0 a2 F G := by
  have hd : z_K ad g n' = z_dn (z_K ad g n) := hd
  have ex := z_ctWx hc
  have eq : z_fOn f t m (z_ls cl nl) (z_ls cu nu) o (z_K ad g n) a = z_bd (z_fLw f t m (z_ls cl nl) (z_ls cu nu) w a1) (fun a' => .inr ((o + 1, z_dn (z_K ad g n), 0), a')) := by
    unfold z_fOn
    rw [z_ifF (z_st9W hc hb e1), z_ifF (z_ROn ho hj hw h8), z_ifF (z_qF h e), z_ifF (show ¬ z_wx f t m a = 14 by rw [ex]; exact h14), z_nxtE hs, ex]
  rcases hl with ⟨x, y, z⟩ | ⟨x, y⟩
  · refine Or.inl ⟨x, y, ?_⟩
    rw [eq, z_bdR z, eo, hd]
  · exact Or.inr ⟨x, eq.trans (z_bdL y)⟩
theorem z_LWF (hl : z_LW q2 f t m cl nl cu nu w a1 a2 F G) (e2 : q2 = 1) : z_z0 F := hl.elim (fun s => s.2.1) (fun s => by rw [e2] at s; exact absurd s.1 (by decide))
theorem z_CmF (hl : z_Cm q2 f t m a1 a2 F G) (e2 : q2 = 1) : z_z0 F := hl.elim (fun s => s.2.1) (fun s => by rw [e2] at s; exact absurd s.1 (by decide))
theorem z_ROF (hl : z_RO ad q2 f t m cl nl cu nu o g n a o' g' n' w9' a' F G) (e2 : q2 = 1) : z_z0 F := hl.elim (fun s => s.2.1) (fun s => by rw [e2] at s; exact absurd s.1 (by decide))
def z_wh9 (r w k : Int32) : Prop := (r = 1 ∧ w = 0 ∧ k = 0) ∨ (r = 0 ∧ ¬ (w = 0 ∧ k = 0))
theorem z_wh91 (hw : w9 = 0) (hk : wi = 0) : z_wh9 1 w9 wi := Or.inl ⟨rfl, hw, hk⟩
theorem z_wh9w (hw : ¬ w9 = 0) : z_wh9 0 w9 wi := Or.inr ⟨rfl, fun q => hw q.1⟩
theorem z_wh9k (hk : ¬ wi = 0) : z_wh9 0 w9 wi := Or.inr ⟨rfl, fun q => hk q.2⟩
def z_RJ (ad : Nat → Nat) (r : Int32) (f : Nat → Int32) (t m o : Int32) (g : Nat → Option Nat) (n a o' : Int32) (g' : Nat → Option Nat) (n' w' a' F G : Int32) : Prop := (r = 1 ∧ z_z0 F ∧ z_fJt f t m o (z_K ad g n) a = .inr ((o', z_K ad g' n', w'), a')) ∨ (r = 0 ∧ z_fJt f t m o (z_K ad g n) a = .inl (F, G))
theorem z_RJA (hr : r = 1) (hc : z_ctk z_cds f t m k a v c w b) (hw : w = 13) (hd : z_djr 1 ad g n n1) (hp : z_psh ad g n1 g' n' w) (hs : z_SA f t m a a1) (hF : z_z0 F) : z_RJ ad r f t m o g n a o g' n' 1 a1 F G := by
  have hd : z_K ad g n1 = z_dj 1 (z_K ad g n) := hd
  have hp : z_K ad g' n' = z_cw w :: z_K ad g n1 := hp
  refine Or.inl ⟨hr, hF, ?_⟩
  unfold z_fJt
  rw [z_ifT ((z_ctWx hc).trans hw), z_nxtE hs, hp, hd, hw] <;> rfl
theorem z_RJO (hr : r = 1) (hc : z_ctk z_cds f t m k a v c w b) (hw : w = 12) (hd : z_djr 2 ad g n n1) (hp : z_psh ad g n1 g' n' w) (hs : z_SA f t m a a1) (hF : z_z0 F) : z_RJ ad r f t m o g n a o g' n' 1 a1 F G := by
  have hd : z_K ad g n1 = z_dj 2 (z_K ad g n) := hd
  have hp : z_K ad g' n' = z_cw w :: z_K ad g n1 := hp
  refine Or.inl ⟨hr, hF, ?_⟩
  unfold z_fJt
  rw [z_ifF (show ¬ z_wx f t m a = 13 by rw [z_ctWx hc, hw]; decide), z_ifT ((z_ctWx hc).trans hw), z_nxtE hs, hp, hd, hw] <;> rfl
theorem z_RJ1 (hr : r = 0) (hc : z_ctk z_cds f t m k a v c w b) (h13 : w ≠ 13) (h12 : w ≠ 12) (hj : z_inj ad) (hw : z_wc ad g n wi) (hh : z_wh9 q w9 wi) (e : q = 1) (hf : z_fa F G 1 a) : z_RJ ad r f t m o g n a o' g' n' w9' a' F G := by
  have ex := z_ctWx hc
  have ek := z_wcK hj hw
  have k0 : wi = 0 := by
    rcases hh with ⟨-, -, s⟩ | ⟨s, -⟩
    · exact s
    · rw [e] at s
      exact absurd s (by decide)
  rw [k0] at ek
  have e0 : (0 : Int32).toInt = 0 := rfl
  refine Or.inr ⟨hr, ?_⟩
  unfold z_fJt
  rw [z_ifF (by rw [ex]; exact h13), z_ifF (by rw [ex]; exact h12), z_ifT (show z_kt (z_K ad g n) = 0 by omega), hf.1, hf.2]
theorem z_RJc (hc : z_ctk z_cds f t m k a v c w b) (h13 : w ≠ 13) (h12 : w ≠ 12) (hj : z_inj ad) (hw : z_wc ad g n wi) (hh : z_wh9 q w9 wi) (e : q = 0) (hw9 : w9 = 0) (hd : z_djr 2 ad g n n1) (ty : n2.toInt = n1.toInt + -1) (hy : z_in 0 40 n2) (hn : z_dnr ad g n2 n3) (hp : z_Ps f t m a 41 r a' F G) : z_RJ ad r f t m o g n a o g n3 w9 a' F G := by
  subst hw9
  have hd : z_K ad g n1 = z_dj 2 (z_K ad g n) := hd
  have hn : z_K ad g n3 = z_dn (z_K ad g n2) := hn
  have ex := z_ctWx hc
  have ek := z_wcK hj hw
  have e0 : (0 : Int32).toInt = 0 := rfl
  have k0 : ¬ wi = 0 := by
    rcases hh with ⟨s, -⟩ | ⟨-, s⟩
    · rw [e] at s
      exact absurd s (by decide)
    · exact fun q => s ⟨rfl, q⟩
  have kn : ¬ z_kt (z_K ad g n) = 0 := fun s => k0 (Int32.toInt_inj.mp (by omega))
  rw [z_KS ty hy.1] at hd
  have et : (z_dj 2 (z_K ad g n)).tail = z_K ad g n2 := (congrArg List.tail hd).symm
  have eq : z_fJt f t m o (z_K ad g n) a = z_bd (z_fSg f t m 41 a) (fun a' => .inr ((o, z_K ad g n3, 0), a')) := by
    unfold z_fJt
    rw [z_ifF (by rw [ex]; exact h13), z_ifF (by rw [ex]; exact h12), z_ifF kn, et, hn]
  rcases hp with ⟨x, y, z⟩ | ⟨x, y⟩
  · exact Or.inl ⟨x, y, eq.trans (z_bdR z)⟩
  · exact Or.inr ⟨x, eq.trans (z_bdL y)⟩
theorem z_RJF (hl : z_RJ ad q2 f t m o g n a o' g' n' w9' a' F G) (e2 : q2 = 1) : z_z0 F := hl.elim (fun s => s.2.1) (fun s => by rw [e2] at s; exact absurd s.1 (by decide))
def z_SV (ad : Nat → Nat) (f : Nat → Int32) (t m i : Int32) (cl : Nat → Int64) (nl : Int32) (cu : Nat → Int64) (nu o : Int32) (g : Nat → Option Nat) (n w a : Int32) : Prop := ∃ a0 : Int32, 0 ≤ a0.toInt ∧ z_Tx f t.toInt.toNat m.toInt.toNat 0 a0.toInt.toNat ∧ 0 ≤ i.toInt ∧ z_it (z_De t m) (z_fTn f t m (z_ls cl nl) (z_ls cu nu)) i.toInt.toNat ((0, [], 1), a0) ((o, z_K ad g n, w), a)
theorem z_SV0 {i : Int32} (hi : i = 0) (ho : o = 0) (hn : n = 0) (hw : w9 = 1) (hx : z_TX f t m 0 a) (hc : z_ctk z_cds f t m k a v c w b) : z_SV ad f t m i cl nl cu nu o g n w9 a := by
  subst hi ho hn hw
  refine ⟨a, hc.1, hx, by decide, ?_⟩
  have e1 : (0 : Int32).toInt.toNat = 0 := by decide
  have e2 : z_K ad g (0 : Int32) = [] := z_K0 (by decide)
  rw [e1, e2] <;> exact rfl
def z_nD (ad : Nat → Nat) (t m : Int32) (g : Nat → Option Nat) (n w a : Int32) : Prop := ¬ (w = 0 ∧ z_kt (z_K ad g n) = 0 ∧ z_TE t m a)
theorem z_nD1 (hj : z_inj ad) (hh : z_wh9 q w9 wi) (e : q = 0) (hw : z_wc ad g n wi) : z_nD ad t m g n w9 a := by
  have ek := z_wcK hj hw
  have e0 : (0 : Int32).toInt = 0 := rfl
  rcases hh with ⟨s, -⟩ | ⟨-, s⟩
  · rw [e] at s
    exact absurd s (by decide)
  · exact fun p => s ⟨p.1, Int32.toInt_inj.mp (by have := p.2.1; omega)⟩
theorem z_nD2 (h : z_SE q t m a) (e : q = 0) : z_nD ad t m g n w9 a := fun p => z_qF h e p.2.2
theorem z_SVO {i i' : Int32} (hI : z_SV ad f t m i cl nl cu nu o g n w9 a) (hw : w9 = 1) (hd : z_nD ad t m g n w9 a) (hl : z_RO ad q f t m cl nl cu nu o g n a o' g' n' w9' a' F G) (e : q = 1) (ti : i'.toInt = i.toInt + 1) : z_SV ad f t m i' cl nl cu nu o' g' n' w9' a' := by
  obtain ⟨a0, h0, h1, h2, h3⟩ := hI
  have s := hl.elim (fun s => s.2.2) (fun s => by rw [e] at s; exact absurd s.1 (by decide))
  have en : i'.toInt.toNat = i.toInt.toNat + 1 := by omega
  refine ⟨a0, h0, h1, by omega, ?_⟩
  rw [en]
  exact ⟨_, h3, hd, (z_fTnO hw).trans s⟩
theorem z_SVJ {i i' : Int32} (hI : z_SV ad f t m i cl nl cu nu o g n w9 a) (hw : w9 = 0) (hd : z_nD ad t m g n w9 a) (hl : z_RJ ad q f t m o g n a o' g' n' w9' a' F G) (e : q = 1) (ti : i'.toInt = i.toInt + 1) : z_SV ad f t m i' cl nl cu nu o' g' n' w9' a' := by
  obtain ⟨a0, h0, h1, h2, h3⟩ := hI
  have s := hl.elim (fun s => s.2.2) (fun s => by rw [e] at s; exact absurd s.1 (by decide))
  have en : i'.toInt.toNat = i.toInt.toNat + 1 := by omega
  have n1 : ¬ w9 = 1 := by rw [hw]; decide
  refine ⟨a0, h0, h1, by omega, ?_⟩
  rw [en]
  exact ⟨_, h3, hd, (z_fTnJ n1).trans s⟩
def z_Sr (r : Int32) (f : Nat → Int32) (t m : Int32) (cl : Nat → Int64) (nl : Int32) (cu : Nat → Int64) (nu o F G : Int32) : Prop := m = 200 ∧ ((r = 1 ∧ z_z0 F ∧ ∃ (K : List Nat) (w a : Int32) (n : Nat), z_fSe f t (z_ls cl nl) (z_ls cu nu) (.inr (((o, K, w), a), n))) ∨ (r = 0 ∧ z_fSe f t (z_ls cl nl) (z_ls cu nu) (.inl (F, G))))
theorem z_SrT {i : Int32} (hr : r = 1) (hm : z_sz m 200) (hI : z_SV ad f t m i cl nl cu nu o g n w9 a) (hj : z_inj ad) (hw : z_wc ad g n wi) (hh : z_wh9 q w9 wi) (e : q = 1) (he : z_SE q1 t m a) (e1 : q1 = 1) (hF : z_z0 F) : z_Sr r f t m cl nl cu nu o F G := by
  have hm : m = 200 := hm
  subst hm
  obtain ⟨a0, h0, h1, h2, h3⟩ := hI
  have ek := z_wcK hj hw
  have e0 : (0 : Int32).toInt = 0 := rfl
  have d : z_De t 200 ((o, z_K ad g n, w9), a) := by
    rcases hh with ⟨-, s1, s2⟩ | ⟨s, -⟩
    · rw [s2] at ek
      exact ⟨s1, show z_kt (z_K ad g n) = 0 by omega, z_qT he e1⟩
    · rw [e] at s
      exact absurd s (by decide)
  exact ⟨rfl, Or.inl ⟨hr, hF, _, _, _, _, a0, h0, h1, i.toInt.toNat, _, h3, Or.inl ⟨d, rfl⟩⟩⟩
theorem z_SrO {i : Int32} (hr : r = 0) (hm : z_sz m 200) (hI : z_SV ad f t m i cl nl cu nu o g n w9 a) (hw : w9 = 1) (hd : z_nD ad t m g n w9 a) (hl : z_RO ad q f t m cl nl cu nu o g n a o' g' n' w9' a' F G) (e : q = 0) : z_Sr r f t m cl nl cu nu n1 F G := by
  have hm : m = 200 := hm
  subst hm
  obtain ⟨a0, h0, h1, h2, h3⟩ := hI
  have s := hl.elim (fun s => by rw [e] at s; exact absurd s.1 (by decide)) (fun s => s.2)
  exact ⟨rfl, Or.inr ⟨hr, a0, h0, h1, i.toInt.toNat, _, h3, Or.inr ⟨hd, (F, G), (z_fTnO hw).trans s, rfl⟩⟩⟩
theorem z_SrJ {i : Int32} (hr : r = 0) (hm : z_sz m 200) (hI : z_SV ad f t m i cl nl cu nu o g n w9 a) (hw : w9 = 0) (hd : z_nD ad t m g n w9 a) (hl : z_RJ ad q f t m o g n a o' g' n' w9' a' F G) (e : q = 0) : z_Sr r f t m cl nl cu nu n1 F G := by
  have hm : m = 200 := hm
  subst hm
  obtain ⟨a0, h0, h1, h2, h3⟩ := hI
  have s := hl.elim (fun s => by rw [e] at s; exact absurd s.1 (by decide)) (fun s => s.2)
  have nw : ¬ w9 = 1 := by rw [hw]; decide
  exact ⟨rfl, Or.inr ⟨hr, a0, h0, h1, i.toInt.toNat, _, h3, Or.inr ⟨hd, (F, G), (z_fTnJ nw).trans s, rfl⟩⟩⟩
theorem z_SrX {i : Int32} (hI : z_SV ad f t m i cl nl cu nu o g n w9 a) (hi : z_in 201 201 i) {P : Prop} : P := by
  obtain ⟨a0, h0, h1, h2, h3⟩ := hI
  obtain ⟨p0, p1, p2, -⟩ := z_sI9R h3
  have p1 : o.toInt ≤ 20 := p1
  have p2 : ((i.toInt.toNat : Nat) : Int) + z_kt (z_K ad g n) + (if w9 = 1 then (0 : Int) else 1) ≤ 3 * o.toInt := p2
  have i1 := hi.1
  exfalso
  by_cases c : w9 = 1
  · rw [if_pos c] at p2
    omega
  · rw [if_neg c] at p2
    omega
theorem z_SnC1 (h : z_Sr q f t m cl nl cu nu o F G) (e : q = 1) (hr : r = o) : z_Sn r f t (z_ls cl nl) (z_ls cu nu) := by
  rcases h.2 with ⟨-, -, K, w, a, n, s⟩ | ⟨s, -⟩
  · rw [hr]
    exact Or.inl ⟨K, w, a, n, s⟩
  · rw [e] at s
    exact absurd s (by decide)
theorem z_SnC0 (h : z_Sr q f t m cl nl cu nu o F G) (e : q = 0) (hr : r = -1 - G) : z_Sn r f t (z_ls cl nl) (z_ls cu nu) := by
  rcases h.2 with ⟨s, -⟩ | ⟨-, s⟩
  · rw [e] at s
    exact absurd s (by decide)
  · exact Or.inr ⟨F, G, hr, s⟩
end
def z_w89 (w : Nat) : Prop := w = 8 ∨ w = 9
theorem z_w898 {w : Nat} (h : w = 8) : z_w89 w := Or.inl h
theorem z_w899 {w : Nat} (h : w = 9) : z_w89 w := Or.inr h
def z_sc1 (l l' : Int32) : Prop := l' = l + 1 ∧ l'.toInt = l.toInt + 1
theorem z_sc1I {l l' : Int32} (e : l' = l + 1) (t : l'.toInt = l.toInt + 1) : z_sc1 l l' := ⟨e, t⟩
section
variable {f : Nat → Int32} {t m k v b k1 v1 b1 a a1 a2 a' r q x z F G F1 G1 l l' nl np nu i i' i0 F0 xm : Int32} {c c1 : Int64} {w w1 : Nat} {cl cp cu : Nat → Int64}
def z_RB (r : Int32) (f : Nat → Int32) (t m : Int32) (cl : Nat → Int64) (nl : Int32) (cp : Nat → Int64) (np : Int32) (cu : Nat → Int64) (nu l a a' F G : Int32) : Prop := (r = 1 ∧ z_z0 F ∧ z_fBl f t m (z_ls cl nl) (z_ls cp np) (z_ls cu nu) l a = .inr a') ∨ (r = 0 ∧ z_fBl f t m (z_ls cl nl) (z_ls cp np) (z_ls cu nu) l a = .inl (F, G))
theorem z_RBf4 (hr : r = 0) (hc : z_ctk z_cds f t m k a v c w b) (hw : w = 10) (hl : z_in 40 40 l) (hf : z_fa F G 4 a) : z_RB r f t m cl nl cp np cu nu l a a' F G := by
  have l1 := hl.1
  refine Or.inr ⟨hr, ?_⟩
  unfold z_fBl
  rw [z_ifT ((z_ctWx hc).trans hw), z_ifT (show 40 ≤ l.toInt from l1), hf.1, hf.2]
theorem z_RBd4 (hr : r = 0) (hc : z_ctk z_cds f t m k a v c w b) (hw : w = 11) (hl : z_in 40 40 l) (hf : z_fa F G 4 a) : z_RB r f t m cl nl cp np cu nu l a a' F G := by
  have l1 := hl.1
  have e := (z_ctWx hc).trans hw
  refine Or.inr ⟨hr, ?_⟩
  unfold z_fBl
  rw [z_ifF (show ¬ z_wx f t m a = 10 by omega), z_ifT e, z_ifT (show 40 ≤ l.toInt from l1), hf.1, hf.2]
theorem z_RBf (hr : (r = 1 ∧ ¬ x = -1) ∨ (r = 0 ∧ x = -1)) (hc : z_ctk z_cds f t m k a v c w b) (hw : w = 10) (hl : z_in 0 39 l) (hs : z_SA f t m a a1) (hp : z_Pk f t m a1 cl nl x a2 F G) : z_RB r f t m cl nl cp np cu nu l a a2 F G := by
  have l2 := hl.2
  have eq : z_fBl f t m (z_ls cl nl) (z_ls cp np) (z_ls cu nu) l a = z_bd (z_fPk f t m (z_ls cl nl) a1) (fun q => .inr q.2) := by
    unfold z_fBl
    rw [z_ifT ((z_ctWx hc).trans hw), z_ifF (show ¬ 40 ≤ l.toInt by omega), z_nxtE hs]
  rcases hr with ⟨e, hx⟩ | ⟨e, hx⟩
  · exact Or.inl ⟨e, z_PkF hp hx, eq.trans (by rw [z_bdR (z_PkR hp hx)] <;> rfl)⟩
  · exact Or.inr ⟨e, eq.trans (z_bdL (z_PkL hp hx))⟩
theorem z_RBd (hr : (r = 1 ∧ ¬ x = -1) ∨ (r = 0 ∧ x = -1)) (hc : z_ctk z_cds f t m k a v c w b) (hw : w = 11) (hl : z_in 0 39 l) (hs : z_SA f t m a a1) (hp : z_Pn f t m 1 60 a1 x a2 F G) : z_RB r f t m cl nl cp np cu nu l a a2 F G := by
  have l2 := hl.2
  have e9 := (z_ctWx hc).trans hw
  have eq : z_fBl f t m (z_ls cl nl) (z_ls cp np) (z_ls cu nu) l a = z_bd (z_fNu f t m 1 60 a1) (fun q => .inr q.2) := by
    unfold z_fBl
    rw [z_ifF (show ¬ z_wx f t m a = 10 by omega), z_ifT e9, z_ifF (show ¬ 40 ≤ l.toInt by omega), z_nxtE hs]
  rcases hr with ⟨e, hx⟩ | ⟨e, hx⟩
  · exact Or.inl ⟨e, z_PnF hp hx, eq.trans (by rw [z_bdR (z_PnR hp hx)] <;> rfl)⟩
  · exact Or.inr ⟨e, eq.trans (z_bdL (z_PnL hp hx))⟩
theorem z_KcL (h : z_Kc f t m a cl nl x F G) (hx : x = -1) : z_fKn f t m (z_ls cl nl) a = .inl (F, G) := h.elim (fun q => absurd hx q.1) (fun q => q.2)
theorem z_KcR (h : z_Kc f t m a cl nl x F G) (hx : ¬ x = -1) : z_fKn f t m (z_ls cl nl) a = .inr x := h.elim (fun q => q.2.2) (fun q => absurd q.1 hx)
theorem z_KcF (h : z_Kc f t m a cl nl x F G) (hx : ¬ x = -1) : z_z0 F := h.elim (fun q => q.2.1) (fun q => absurd q.1 hx)
theorem z_nsKc (h : z_Kc f t m a cl nl x F G) (hx : ¬ x = -1) : z_ns t m a := z_KnS (z_KcR h hx)
theorem z_RBq (hc : z_ctk z_cds f t m k a v c w b) (h10 : w ≠ 10) (h11 : w ≠ 11) {P Q U : List Int64} : z_fBl f t m P Q U l a = z_bd (z_fKn f t m Q a) (fun _ => z_if (40 ≤ l.toInt) (.inl (4, a)) (z_fAc f t m P U (z_nxt f t m a))) := by
  have e := z_ctWx hc
  unfold z_fBl
  rw [z_ifF (show ¬ z_wx f t m a = 10 by omega), z_ifF (show ¬ z_wx f t m a = 11 by omega)]
theorem z_RBp0 (hr : r = 0) (hc : z_ctk z_cds f t m k a v c w b) (h10 : w ≠ 10) (h11 : w ≠ 11) (hk : z_Kc f t m a cp np x F G) (hx : x = -1) : z_RB r f t m cl nl cp np cu nu l a a' F G := Or.inr ⟨hr, (z_RBq hc h10 h11).trans (z_bdL (z_KcL hk hx))⟩
theorem z_RBp4 (hr : r = 0) (hc : z_ctk z_cds f t m k a v c w b) (h10 : w ≠ 10) (h11 : w ≠ 11) (hk : z_Kc f t m a cp np x F1 G1) (hx : ¬ x = -1) (hl : z_in 40 40 l) (hf : z_fa F G 4 a) : z_RB r f t m cl nl cp np cu nu l a a' F G := by
  have l1 := hl.1
  refine Or.inr ⟨hr, ?_⟩
  rw [z_RBq hc h10 h11, z_bdR (z_KcR hk hx), z_ifT (show 40 ≤ l.toInt from l1), hf.1, hf.2]
theorem z_RBp1 (hr : r = 0) (hc : z_ctk z_cds f t m k a v c w b) (h10 : w ≠ 10) (h11 : w ≠ 11) (hk : z_Kc f t m a cp np x F1 G1) (hx : ¬ x = -1) (hl : z_in 0 39 l) (hs : z_SA f t m a a1) (hc1 : z_ctk z_cds f t m k1 a1 v1 c1 w1 b1) (h7 : w1 ≠ 7) (h8 : w1 ≠ 8) (h9 : w1 ≠ 9) (hf : z_fa F G 1 a1) : z_RB r f t m cl nl cp np cu nu l a a' F G := by
  have l2 := hl.2
  have e1 := z_ctWx hc1
  refine Or.inr ⟨hr, ?_⟩
  rw [z_RBq hc h10 h11, z_bdR (z_KcR hk hx), z_ifF (show ¬ 40 ≤ l.toInt by omega), z_nxtE hs]
  unfold z_fAc
  rw [z_ifF (show ¬ z_wx f t m a1 = 7 by omega), z_ifF (show ¬ (z_wx f t m a1 = 8 ∨ z_wx f t m a1 = 9) by omega), hf.1, hf.2]
theorem z_RBg (hr : (r = 1 ∧ ¬ z = -1) ∨ (r = 0 ∧ z = -1)) (hc : z_ctk z_cds f t m k a v c w b) (h10 : w ≠ 10) (h11 : w ≠ 11) (hk : z_Kc f t m a cp np x F1 G1) (hx : ¬ x = -1) (hl : z_in 0 39 l) (hs : z_SA f t m a a1) (hc1 : z_ctk z_cds f t m k1 a1 v1 c1 w1 b1) (h7 : w1 = 7) (hs2 : z_SA f t m a1 a2) (hp : z_Pk f t m a2 cl nl z a' F G) : z_RB r f t m cl nl cp np cu nu l a a' F G := by
  have l2 := hl.2
  have e1 := (z_ctWx hc1).trans h7
  have eq : z_fBl f t m (z_ls cl nl) (z_ls cp np) (z_ls cu nu) l a = z_bd (z_fPk f t m (z_ls cl nl) a2) (fun q => .inr q.2) := by
    rw [z_RBq hc h10 h11, z_bdR (z_KcR hk hx), z_ifF (show ¬ 40 ≤ l.toInt by omega), z_nxtE hs]
    unfold z_fAc
    rw [z_ifT e1, z_nxtE hs2]
  rcases hr with ⟨e, hx⟩ | ⟨e, hx⟩
  · exact Or.inl ⟨e, z_PkF hp hx, eq.trans (by rw [z_bdR (z_PkR hp hx)] <;> rfl)⟩
  · exact Or.inr ⟨e, eq.trans (z_bdL (z_PkL hp hx))⟩
theorem z_RBt (hr : (r = 1 ∧ ¬ z = -1) ∨ (r = 0 ∧ z = -1)) (hc : z_ctk z_cds f t m k a v c w b) (h10 : w ≠ 10) (h11 : w ≠ 11) (hk : z_Kc f t m a cp np x F1 G1) (hx : ¬ x = -1) (hl : z_in 0 39 l) (hs : z_SA f t m a a1) (hc1 : z_ctk z_cds f t m k1 a1 v1 c1 w1 b1) (h89 : z_w89 w1) (hs2 : z_SA f t m a1 a2) (hp : z_Pk f t m a2 cu nu z a' F G) : z_RB r f t m cl nl cp np cu nu l a a' F G := by
  have l2 := hl.2
  have e1 := z_ctWx hc1
  have h89 : w1 = 8 ∨ w1 = 9 := h89
  have eq : z_fBl f t m (z_ls cl nl) (z_ls cp np) (z_ls cu nu) l a = z_bd (z_fPk f t m (z_ls cu nu) a2) (fun q => .inr q.2) := by
    rw [z_RBq hc h10 h11, z_bdR (z_KcR hk hx), z_ifF (show ¬ 40 ≤ l.toInt by omega), z_nxtE hs]
    unfold z_fAc
    rw [z_ifF (show ¬ z_wx f t m a1 = 7 by omega), z_ifT (show z_wx f t m a1 = 8 ∨ z_wx f t m a1 = 9 by omega), z_nxtE hs2]
  rcases hr with ⟨e, hx⟩ | ⟨e, hx⟩
  · exact Or.inl ⟨e, z_PkF hp hx, eq.trans (by rw [z_bdR (z_PkR hp hx)] <;> rfl)⟩
  · exact Or.inr ⟨e, eq.trans (z_bdL (z_PkL hp hx))⟩
theorem z_RBF (h : z_RB q f t m cl nl cp np cu nu l a a' F G) (e : q = 1) : z_z0 F := h.elim (fun s => s.2.1) (fun s => by rw [e] at s; exact absurd s.1 (by decide))
theorem z_rx1 (hr : r = 1) (hx : ¬ x = -1) : (r = 1 ∧ ¬ x = -1) ∨ (r = 0 ∧ x = -1) := Or.inl ⟨hr, hx⟩
theorem z_rx0 (hr : r = 0) (hx : x = -1) : (r = 1 ∧ ¬ x = -1) ∨ (r = 0 ∧ x = -1) := Or.inr ⟨hr, hx⟩
def z_BV (f : Nat → Int32) (t m i : Int32) (cl : Nat → Int64) (nl : Int32) (cp : Nat → Int64) (np : Int32) (cu : Nat → Int64) (nu l a : Int32) : Prop := ∃ a0 : Int32, 0 ≤ a0.toInt ∧ z_Tx f t.toInt.toNat m.toInt.toNat 0 a0.toInt.toNat ∧ 0 ≤ i.toInt ∧ l.toInt = i.toInt ∧ z_it (fun x : Int32 × Int32 => z_TE t m x.2) (z_fBt f t m (z_ls cl nl) (z_ls cp np) (z_ls cu nu)) i.toInt.toNat (0, a0) (l, a)
theorem z_BV0 (hi : i = 0) (hl : l = 0) (hx : z_TX f t m 0 a) (hc : z_ctk z_cds f t m k a v c w b) : z_BV f t m i cl nl cp np cu nu l a := by
  subst hi hl
  refine ⟨a, hc.1, hx, by decide, rfl, ?_⟩
  have e1 : (0 : Int32).toInt.toNat = 0 := by decide
  rw [e1] <;> exact rfl
theorem z_fBtI {P Q U : List Int64} (hl : z_fBl f t m P Q U l a = .inr a1) (hs : z_fSg f t m 59 a1 = .inr a2) : z_fBt f t m P Q U (l, a) = .inr (l + 1, a2) := by
  have e1 : z_fBt f t m P Q U (l, a) = z_bd (z_fBl f t m P Q U l a) (fun b => z_bd (z_fSg f t m 59 b) (fun c => .inr (l + 1, c))) := rfl
  rw [e1, z_bdR hl, z_bdR hs]
theorem z_fBtS {P Q U : List Int64} {e : Int32 × Int32} (hl : z_fBl f t m P Q U l a = .inr a1) (hs : z_fSg f t m 59 a1 = .inl e) : z_fBt f t m P Q U (l, a) = .inl e := by
  have e1 : z_fBt f t m P Q U (l, a) = z_bd (z_fBl f t m P Q U l a) (fun b => z_bd (z_fSg f t m 59 b) (fun c => .inr (l + 1, c))) := rfl
  rw [e1, z_bdR hl]
  exact z_bdL hs
theorem z_BVS (hI : z_BV f t m i cl nl cp np cu nu l a) (he : z_SE q t m a) (eq : q = 0) (hb : z_RB r f t m cl nl cp np cu nu l a a1 F1 G1) (er : r = 1) (hs : z_Ps f t m a1 59 z a2 F G) (ez : z = 1) (ti : i'.toInt = i.toInt + 1) (hl1 : z_sc1 l l') : z_BV f t m i' cl nl cp np cu nu l' a2 := by
  obtain ⟨a0, h0, h1, h2, h3, h4⟩ := hI
  have s := hb.elim (fun s => s.2.2) (fun s => by rw [er] at s; exact absurd s.1 (by decide))
  have p := hs.elim (fun s => s.2.2) (fun s => by rw [ez] at s; exact absurd s.1 (by decide))
  obtain ⟨tl, tl2⟩ := hl1
  have en : i'.toInt.toNat = i.toInt.toNat + 1 := by omega
  refine ⟨a0, h0, h1, by omega, by omega, ?_⟩
  rw [en, tl]
  exact ⟨_, h4, z_qF he eq, z_fBtI s p⟩
def z_Br (r : Int32) (f : Nat → Int32) (t m : Int32) (cl : Nat → Int64) (nl : Int32) (cp : Nat → Int64) (np : Int32) (cu : Nat → Int64) (nu F : Int32) : Prop := m = 400 ∧ ((r = 1 ∧ F = 0 ∧ ∃ y : (Int32 × Int32) × Nat, z_fBk f t (z_n3 cl nl cp np cu nu) (.inr y)) ∨ (r = 0 ∧ ∃ G : Int32, z_fBk f t (z_n3 cl nl cp np cu nu) (.inl (F, G))))
theorem z_BrT (hr : r = 1) (hm : z_sz m 400) (hI : z_BV f t m i cl nl cp np cu nu l a) (he : z_SE q t m a) (eq : q = 1) (hF : z_z0 F) : z_Br r f t m cl nl cp np cu nu F := by
  have hm : m = 400 := hm
  subst hm
  obtain ⟨a0, h0, h1, h2, h3, h4⟩ := hI
  exact ⟨rfl, Or.inl ⟨hr, hF, ((l, a), i.toInt.toNat), a0, h0, h1, i.toInt.toNat, (l, a), h4, Or.inl ⟨z_qT he eq, rfl⟩⟩⟩
theorem z_BrL (hr : r = 0) (hm : z_sz m 400) (hI : z_BV f t m i cl nl cp np cu nu l a) (he : z_SE q t m a) (eq : q = 0) (hb : z_RB z f t m cl nl cp np cu nu l a a1 F G) (ez : z = 0) : z_Br r f t m cl nl cp np cu nu F := by
  have hm : m = 400 := hm
  subst hm
  obtain ⟨a0, h0, h1, h2, h3, h4⟩ := hI
  have s := hb.elim (fun s => by rw [ez] at s; exact absurd s.1 (by decide)) (fun s => s.2)
  exact ⟨rfl, Or.inr ⟨hr, G, a0, h0, h1, i.toInt.toNat, (l, a), h4, Or.inr ⟨z_qF he eq, (F, G), z_bdL s, rfl⟩⟩⟩
theorem z_BrS {z2 : Int32} (hr : r = 0) (hm : z_sz m 400) (hI : z_BV f t m i cl nl cp np cu nu l a) (he : z_SE q t m a) (eq : q = 0) (hb : z_RB z f t m cl nl cp np cu nu l a a1 F1 G1) (ez : z = 1) (hs : z_Ps f t m a1 59 z2 a2 F G) (e2 : z2 = 0) : z_Br r f t m cl nl cp np cu nu F := by
  have hm : m = 400 := hm
  subst hm
  obtain ⟨a0, h0, h1, h2, h3, h4⟩ := hI
  have s := hb.elim (fun s => s.2.2) (fun s => by rw [ez] at s; exact absurd s.1 (by decide))
  have p := hs.elim (fun s => by rw [e2] at s; exact absurd s.1 (by decide)) (fun s => s.2)
  refine ⟨rfl, Or.inr ⟨hr, G, a0, h0, h1, i.toInt.toNat, (l, a), h4, Or.inr ⟨z_qF he eq, (F, G), ?_, rfl⟩⟩⟩
  exact z_fBtS s p
theorem z_BrX (hI : z_BV f t m i cl nl cp np cu nu l a) (hi : z_in 41 41 i) (hl : z_in 0 40 l) {P : Prop} : P := by
  obtain ⟨a0, h0, h1, h2, h3, h4⟩ := hI
  have i1 := hi.1
  have l2 := hl.2
  exfalso
  omega
def z_FtC (f : Nat → Int32) (t F : Int32) : Prop := z_Ft f t F
theorem z_FtC0 {ms fr : Int32} (h : z_Rt f t m r cl nl cp np cu nu ms fr F G) (hn : ¬ r = -1) (q2 : z_sz m 900) : z_Ft f t F := by
  have q2 : m = 900 := q2
  subst q2
  rcases h with ⟨-, hF, fr0, -, q⟩ | ⟨e, -⟩
  · exact Or.inl ⟨hF, _, _, q⟩
  · exact absurd e hn
theorem z_FtC1 {ms fr : Int32} (h : z_Rt f t m r cl nl cp np cu nu ms fr F G) (hr : r = -1) (q2 : z_sz m 900) : z_Ft f t F := by
  have q2 : m = 900 := q2
  subst q2
  rcases h with ⟨h0, -⟩ | ⟨-, q⟩
  · rw [hr] at h0
    exact absurd h0 (by decide)
  · exact Or.inr ⟨G, q⟩
def z_FsC (f : Nat → Int32) (t : Int32) (cl : Nat → Int64) (nl : Int32) (cp : Nat → Int64) (np : Int32) (cu : Nat → Int64) (nu F : Int32) : Prop := z_Fs f t (z_n3 cl nl cp np cu nu) F
theorem z_FsC9 {o : Int32} (h : z_Sr q f t m cl nl cu nu o F G) : z_FsC f t cl nl cp np cu nu F := by
  rcases h.2 with ⟨-, hF, K, w, a, n, s⟩ | ⟨-, s⟩
  · exact Or.inl ⟨hF, _, s⟩
  · exact Or.inr ⟨G, s⟩
theorem z_FsCX {N : z_NT} (h : z_FsC f t cl nl cp np cu nu F) (e : z_n3 cl nl cp np cu nu = N) : z_Fs f t N F := by
  rw [← e]
  exact h
def z_FbC (i : Int32) (f : Nat → Int32) (t : Int32) (cl : Nat → Int64) (nl : Int32) (cp : Nat → Int64) (np : Int32) (cu : Nat → Int64) (nu F F0 : Int32) : Prop := z_Fb i f t (z_n3 cl nl cp np cu nu) F F0
theorem z_FbC9 (hi : z_in 0 1 i) (h : z_Br q f t m cl nl cp np cu nu F) : z_FbC i f t cl nl cp np cu nu F F0 := by
  refine Or.inr ⟨hi, ?_⟩
  rcases h.2 with ⟨-, s⟩ | ⟨-, s⟩
  · exact Or.inl s
  · exact Or.inr s
theorem z_FbCn (h0 : ¬ i = 0) (h1 : ¬ i = 1) : z_FbC i f t cl nl cp np cu nu F0 F0 := Or.inl ⟨fun s => by
  have s1 := s.1
  have s2 := s.2
  have c : i.toInt = 0 ∨ i.toInt = 1 := by omega
  rcases c with c | c
  · exact h0 (Int32.toInt_inj.mp (c.trans (by decide)))
  · exact h1 (Int32.toInt_inj.mp (c.trans (by decide))), rfl⟩
theorem z_FbCX {N : z_NT} (h : z_FbC i f t cl nl cp np cu nu F F0) (e : z_n3 cl nl cp np cu nu = N) : z_Fb i f t N F F0 := by
  rw [← e]
  exact h
end
