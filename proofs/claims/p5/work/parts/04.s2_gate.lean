section
variable {f : Nat → Int32} {t m k a v b a9 r F G ms fr ms' fr' nl np nu nl' np' nu' : Int32} {cl cp cu cl' cp' cu' : Nat → Int64} {c : Int64} {w : Nat} {S : z_TW}
theorem z_RKt {i : Nat} (e : z_fLi f t m (z_tw cl nl cp np cu nu ms fr) a = z_gK i f t m (z_tw cl nl cp np cu nu ms fr) a) (h : z_RK i f t m a cl nl cp np cu nu ms fr r a9 cl' nl' cp' np' cu' nu' ms' fr' F G) : z_RK 5 f t m a cl nl cp np cu nu ms fr r a9 cl' nl' cp' np' cu' nu' ms' fr' F G := by
  rcases h with ⟨x, y, z⟩ | ⟨x, y⟩
  · exact Or.inl ⟨x, y, e.trans z⟩
  · exact Or.inr ⟨x, e.trans y⟩
theorem z_wnT (hc : z_ctk z_cds f t m k a v c w b) {i j : Nat} (hw : w = j) (hi : decide (1 ≤ i ∧ i < 22 ∧ ¬ j = i) = true) : ¬ z_TL f t m a (z_cds.getD i 0) := by
  have q := of_decide_eq_true hi
  exact z_ctkwn hc z_cdsD q.1 q.2.1 (by rw [hw]; exact q.2.2)
theorem z_wyT (hc : z_ctk z_cds f t m k a v c w b) {i : Nat} (hw : w = i) (hi : decide (1 ≤ i) = true) : z_TL f t m a (z_cds.getD i 0) := z_ctkw hc (of_decide_eq_true hi) hw
theorem z_Li1 (hc : z_ctk z_cds f t m k a v c w b) (hw : w = 1) (h : z_RK 0 f t m a cl nl cp np cu nu ms fr r a9 cl' nl' cp' np' cu' nu' ms' fr' F G) : z_RK 5 f t m a cl nl cp np cu nu ms fr r a9 cl' nl' cp' np' cu' nu' ms' fr' F G := by
  refine z_RKt (i := 0) ?_ h
  unfold z_fLi
  rw [z_ifT (z_wyT hc hw rfl)]
  rfl
theorem z_Li2 (hc : z_ctk z_cds f t m k a v c w b) (hw : w = 2) (h : z_RK 1 f t m a cl nl cp np cu nu ms fr r a9 cl' nl' cp' np' cu' nu' ms' fr' F G) : z_RK 5 f t m a cl nl cp np cu nu ms fr r a9 cl' nl' cp' np' cu' nu' ms' fr' F G := by
  refine z_RKt (i := 1) ?_ h
  unfold z_fLi
  rw [z_ifF (z_wnT hc hw (i := 1) rfl), z_ifT (z_wyT hc hw rfl)]
  rfl
theorem z_Li4 (hc : z_ctk z_cds f t m k a v c w b) (hw : w = 4) (h : z_RK 2 f t m a cl nl cp np cu nu ms fr r a9 cl' nl' cp' np' cu' nu' ms' fr' F G) : z_RK 5 f t m a cl nl cp np cu nu ms fr r a9 cl' nl' cp' np' cu' nu' ms' fr' F G := by
  refine z_RKt (i := 2) ?_ h
  unfold z_fLi
  rw [z_ifF (z_wnT hc hw (i := 1) rfl), z_ifF (z_wnT hc hw (i := 2) rfl), z_ifT (z_wyT hc hw rfl)]
  rfl
theorem z_Li5 (hc : z_ctk z_cds f t m k a v c w b) (hw : w = 5) (h : z_RK 3 f t m a cl nl cp np cu nu ms fr r a9 cl' nl' cp' np' cu' nu' ms' fr' F G) : z_RK 5 f t m a cl nl cp np cu nu ms fr r a9 cl' nl' cp' np' cu' nu' ms' fr' F G := by
  refine z_RKt (i := 3) ?_ h
  unfold z_fLi
  rw [z_ifF (z_wnT hc hw (i := 1) rfl), z_ifF (z_wnT hc hw (i := 2) rfl), z_ifF (z_wnT hc hw (i := 4) rfl), z_ifT (z_wyT hc hw rfl)]
  rfl
theorem z_Li6 (hc : z_ctk z_cds f t m k a v c w b) (hw : w = 6) (h : z_RK 4 f t m a cl nl cp np cu nu ms fr r a9 cl' nl' cp' np' cu' nu' ms' fr' F G) : z_RK 5 f t m a cl nl cp np cu nu ms fr r a9 cl' nl' cp' np' cu' nu' ms' fr' F G := by
  refine z_RKt (i := 4) ?_ h
  unfold z_fLi
  rw [z_ifF (z_wnT hc hw (i := 1) rfl), z_ifF (z_wnT hc hw (i := 2) rfl), z_ifF (z_wnT hc hw (i := 4) rfl), z_ifF (z_wnT hc hw (i := 5) rfl), z_ifT (z_wyT hc hw rfl)]
  rfl
theorem z_Li0 (hc : z_ctk z_cds f t m k a v c w b) (h1 : w ≠ 1) (h2 : w ≠ 2) (h4 : w ≠ 4) (h5 : w ≠ 5) (h6 : w ≠ 6) (hf : z_fa F G 1 a) (hr : r = 0) : z_RK 5 f t m a cl nl cp np cu nu ms fr r a9 cl' nl' cp' np' cu' nu' ms' fr' F G := by
  refine Or.inr ⟨hr, ?_⟩
  show z_fLi f t m (z_tw cl nl cp np cu nu ms fr) a = _
  unfold z_fLi
  rw [z_ifF (z_ctkwn hc z_cdsD (by decide) (by decide) h1), z_ifF (z_ctkwn hc z_cdsD (by decide) (by decide) h2), z_ifF (z_ctkwn hc z_cdsD (by decide) (by decide) h4), z_ifF (z_ctkwn hc z_cdsD (by decide) (by decide) h5), z_ifF (z_ctkwn hc z_cdsD (by decide) (by decide) h6), hf.1, hf.2]
end
def z_tt9 (S : z_TW) : Int := (S.1.length : Int) + S.2.1.length + S.2.2.1.length + S.2.2.2.1.toInt + (if S.2.2.2.2 = 0 then 0 else 1)
def z_ok9 (S : z_TW) : Prop := 0 ≤ S.2.2.2.1.toInt ∧ S.2.2.2.1.toInt ≤ 14
theorem z_bdI {E α β : Type} {x : E ⊕ α} {k : α → E ⊕ β} {y : β} (h : z_bd x k = .inr y) : ∃ z : α, x = .inr z ∧ k z = .inr y := by
  cases x with
  | inl e => cases h
  | inr z => exact ⟨z, rfl, h⟩
theorem z_ifI {α : Type} {P : Prop} {x y z : α} (h : z_if P x y = z) : (P ∧ x = z) ∨ (¬ P ∧ y = z) := by
  by_cases q : P
  · rw [z_ifT q] at h
    exact Or.inl ⟨q, h⟩
  · rw [z_ifF q] at h
    exact Or.inr ⟨q, h⟩
theorem z_fNuB {f : Nat → Int32} {t m lo hi a : Int32} {q : Int32 × Int32} (h : z_fNu f t m lo hi a = .inr q) : lo.toInt ≤ q.1.toInt := by
  rcases z_ifI h with ⟨-, h⟩ | ⟨-, h⟩
  · rcases z_ifI h with ⟨h1, h⟩ | ⟨-, h⟩
    · rw [← Sum.inr.inj h]
      exact h1.1
    · cases h
  · cases h
theorem z_fLiB {f : Nat → Int32} {t m a : Int32} {S : z_TW} {q : z_TW × Int32} (hk : z_ok9 S) (h : z_fLi f t m S a = .inr q) : z_tt9 q.1 = z_tt9 S + 1 ∧ z_ok9 q.1 := by
  obtain ⟨P, Q, U, ms, fr⟩ := S
  obtain ⟨k1, k2⟩ := hk
  have k1 : 0 ≤ ms.toInt := k1
  have k2 : ms.toInt ≤ 14 := k2
  rcases z_ifI h with ⟨-, h⟩ | ⟨-, h⟩
  · rcases z_ifI h with ⟨-, h⟩ | ⟨-, h⟩
    · cases h
    · obtain ⟨z, -, h⟩ := z_bdI h
      rw [← Sum.inr.inj h]
      refine ⟨?_, k1, k2⟩
      simp [z_tt9]
      omega
  rcases z_ifI h with ⟨-, h⟩ | ⟨-, h⟩
  · rcases z_ifI h with ⟨-, h⟩ | ⟨-, h⟩
    · cases h
    · obtain ⟨z, -, h⟩ := z_bdI h
      obtain ⟨y, -, h⟩ := z_bdI h
      rw [← Sum.inr.inj h]
      refine ⟨?_, k1, k2⟩
      simp [z_tt9]
      omega
  rcases z_ifI h with ⟨-, h⟩ | ⟨-, h⟩
  · rcases z_ifI h with ⟨-, h⟩ | ⟨h14, h⟩
    · cases h
    · obtain ⟨z, -, h⟩ := z_bdI h
      obtain ⟨y, -, h⟩ := z_bdI h
      obtain ⟨x, -, h⟩ := z_bdI h
      rw [← Sum.inr.inj h]
      have h14 : ¬ 14 ≤ ms.toInt := h14
      have e : (ms + 1).toInt = ms.toInt + 1 := z_addT (a := 0) (b := 14) (c := 1) (d := 1) ⟨k1, k2⟩ ⟨by decide, by decide⟩ rfl
      refine ⟨?_, ?_, ?_⟩
      · simp only [z_tt9]
        omega
      · show 0 ≤ (ms + 1).toInt
        omega
      · show (ms + 1).toInt ≤ 14
        omega
  rcases z_ifI h with ⟨-, h⟩ | ⟨-, h⟩
  · rcases z_ifI h with ⟨-, h⟩ | ⟨-, h⟩
    · cases h
    · obtain ⟨z, -, h⟩ := z_bdI h
      obtain ⟨y, -, h⟩ := z_bdI h
      obtain ⟨x, -, h⟩ := z_bdI h
      rw [← Sum.inr.inj h]
      refine ⟨?_, k1, k2⟩
      simp [z_tt9]
      omega
  rcases z_ifI h with ⟨-, h⟩ | ⟨-, h⟩
  · rcases z_ifI h with ⟨-, h⟩ | ⟨h0, h⟩
    · cases h
    · obtain ⟨z, hz, h⟩ := z_bdI h
      have b := z_fNuB hz
      have n0 : ¬ z.1 = 0 := fun e => by rw [e] at b; exact absurd b (by decide)
      have h0 : fr = 0 := Classical.byContradiction fun q => h0 q
      rw [← Sum.inr.inj h]
      refine ⟨?_, k1, k2⟩
      simp only [z_tt9]
      rw [if_neg n0, if_pos h0]
      omega
  · cases h
theorem z_fLsB {f : Nat → Int32} {t m : Int32} : ∀ (n : Nat) {S : z_TW} {a : Int32} {S1 : z_TW} {a1 : Int32}, z_ok9 S → z_fLs f t m n S a S1 a1 → z_tt9 S1 = z_tt9 S + n ∧ z_ok9 S1
  | 0, _, _, _, _, hk, h => by
    rw [h.1]
    exact ⟨by simp, hk⟩
  | n + 1, S, _, S1, _, hk, h => by
    obtain ⟨X, x, p, -, q⟩ := h
    obtain ⟨e, k⟩ := z_fLsB n hk p
    obtain ⟨z, q1, q2⟩ := z_bdI q
    obtain ⟨y, q3, q4⟩ := z_bdI q2
    obtain ⟨e2, k2⟩ := z_fLiB k q1
    have e3 : z.1 = S1 := congrArg Prod.fst (Sum.inr.inj q4)
    rw [← e3]
    exact ⟨by omega, k2⟩
def z_S0 : z_TW := ([], [], [], 0, 0)
def z_Lv (f : Nat → Int32) (t m n a : Int32) (cl : Nat → Int64) (nl : Int32) (cp : Nat → Int64) (np : Int32) (cu : Nat → Int64) (nu ms fr : Int32) : Prop := ∃ a0 : Int32, 0 ≤ a0.toInt ∧ z_Tx f t.toInt.toNat m.toInt.toNat 0 a0.toInt.toNat ∧ 0 ≤ n.toInt ∧ z_fLs f t m n.toInt.toNat z_S0 a0 (z_tw cl nl cp np cu nu ms fr) a
def z_fT0 (f : Nat → Int32) (t m : Int32) (r : (Int32 × Int32) ⊕ (z_TW × Nat)) : Prop := ∃ a0 : Int32, 0 ≤ a0.toInt ∧ z_Tx f t.toInt.toNat m.toInt.toNat 0 a0.toInt.toNat ∧ z_fTo f t m z_S0 a0 r
theorem z_fT0E {f : Nat → Int32} {t m : Int32} {r r' : (Int32 × Int32) ⊕ (z_TW × Nat)} (h : z_fT0 f t m r) (h' : z_fT0 f t m r') : r = r' := by
  obtain ⟨a, p, q, s⟩ := h
  obtain ⟨b, p', q', s'⟩ := h'
  have e := z_TxE q q'
  have e2 : a = b := Int32.toInt_inj.mp (by omega)
  subst e2
  exact z_fToE s s'
def z_Rt (f : Nat → Int32) (t m r : Int32) (cl : Nat → Int64) (nl : Int32) (cp : Nat → Int64) (np : Int32) (cu : Nat → Int64) (nu ms fr F G : Int32) : Prop :=
  (0 ≤ r.toInt ∧ z_z0 F ∧ ∃ fr0 : Int32, fr = (if fr0 = 0 then 2 else fr0) ∧ z_fT0 f t m (.inr ((z_ls cl nl, z_ls cp np, z_ls cu nu, ms, fr0), r.toInt.toNat))) ∨ (r = -1 ∧ z_fT0 f t m (.inl (F, G)))
section
variable {f : Nat → Int32} {t m k a v b n n' q r r1 r2 a1 a2 F G F1 G1 ms fr ms' fr' nl np nu nl' np' nu' : Int32} {cl cp cu cl' cp' cu' : Nat → Int64} {c : Int64} {w : Nat}
theorem z_ls0 (h : nl = 0) : z_ls cl nl = [] := by
  rw [h]
  rfl
theorem z_Lv0 (h1 : nl = 0) (h2 : np = 0) (h3 : nu = 0) (h4 : ms = 0) (h5 : fr = 0) (hx : z_TX f t m 0 a) (hc : z_ctk z_cds f t m k a v c w b) : z_Lv f t m 0 a cl nl cp np cu nu ms fr := by
  refine ⟨a, hc.1, hx, by decide, ?_⟩
  show z_tw cl nl cp np cu nu ms fr = z_S0 ∧ a = a
  unfold z_tw
  rw [z_ls0 h1, z_ls0 h2, z_ls0 h3, h4, h5]
  exact ⟨rfl, rfl⟩
theorem z_fLnI {S S' : z_TW} (h : z_fLi f t m S a = .inr (S', a1)) (hs : z_fSg f t m 59 a1 = .inr a2) : z_fLn f t m S a = .inr (S', a2) := by
  unfold z_fLn
  rw [z_bdR h, z_bdR hs]
theorem z_LvS (hI : z_Lv f t m n a cl nl cp np cu nu ms fr) (he : z_SE q t m a) (eq : q = 0) (hl : z_RK 5 f t m a cl nl cp np cu nu ms fr r1 a1 cl' nl' cp' np' cu' nu' ms' fr' F1 G1) (e1 : r1 = 1) (hs : z_Ps f t m a1 59 r2 a2 F G) (e2 : r2 = 1) (tn : n'.toInt = n.toInt + 1) : z_Lv f t m n' a2 cl' nl' cp' np' cu' nu' ms' fr' := by
  obtain ⟨a0, h0, h1, h2, h3⟩ := hI
  have l := hl.elim (fun x => x.2.2) (fun x => by rw [e1] at x; exact absurd x.1 (by decide))
  have s := hs.elim (fun x => x.2.2) (fun x => by rw [e2] at x; exact absurd x.1 (by decide))
  have en : n'.toInt.toNat = n.toInt.toNat + 1 := by omega
  refine ⟨a0, h0, h1, by omega, ?_⟩
  rw [en]
  exact ⟨z_tw cl nl cp np cu nu ms fr, a, h3, z_qF he eq, z_fLnI l s⟩
theorem z_RtE {fr0 : Int32} (hI : z_Lv f t m n a cl nl cp np cu nu ms fr0) (he : z_SE q t m a) (eq : q = 1) (hF : z_z0 F) (hfr : fr = if fr0 = 0 then 2 else fr0) : z_Rt f t m n cl nl cp np cu nu ms fr F G := by
  obtain ⟨a0, h0, h1, h2, h3⟩ := hI
  exact Or.inl ⟨h2, hF, fr0, hfr, a0, h0, h1, n.toInt.toNat, _, a, h3, Or.inl ⟨z_qT he eq, rfl⟩⟩
theorem z_Rt1 {fr0 : Int32} (hI : z_Lv f t m n a cl nl cp np cu nu ms fr0) (he : z_SE q t m a) (eq : q = 1) (hF : z_z0 F) (h0 : fr0 = 0) : z_Rt f t m n cl nl cp np cu nu ms 2 F G := z_RtE hI he eq hF (by rw [if_pos h0])
theorem z_Rt2 (hI : z_Lv f t m n a cl nl cp np cu nu ms fr) (he : z_SE q t m a) (eq : q = 1) (hF : z_z0 F) (h0 : ¬ fr = 0) : z_Rt f t m n cl nl cp np cu nu ms fr F G := z_RtE hI he eq hF (by rw [if_neg h0])
theorem z_Rt3 (hI : z_Lv f t m n a cl nl cp np cu nu ms fr) (he : z_SE q t m a) (eq : q = 0) (hl : z_RK 5 f t m a cl nl cp np cu nu ms fr r1 a1 cl' nl' cp' np' cu' nu' ms' fr' F G) (e1 : r1 = 0) : z_Rt f t m (-1) cl' nl' cp' np' cu' nu' ms' fr' F G := by
  obtain ⟨a0, h0, h1, h2, h3⟩ := hI
  have l := hl.elim (fun x => by rw [e1] at x; exact absurd x.1 (by decide)) (fun x => x.2)
  refine Or.inr ⟨rfl, a0, h0, h1, n.toInt.toNat, _, a, h3, Or.inr ⟨z_qF he eq, (F, G), ?_, rfl⟩⟩
  exact z_bdL l
theorem z_Rt4 (hI : z_Lv f t m n a cl nl cp np cu nu ms fr) (he : z_SE q t m a) (eq : q = 0) (hl : z_RK 5 f t m a cl nl cp np cu nu ms fr r1 a1 cl' nl' cp' np' cu' nu' ms' fr' F1 G1) (e1 : r1 = 1) (hs : z_Ps f t m a1 59 r2 a2 F G) (e2 : r2 = 0) : z_Rt f t m (-1) cl' nl' cp' np' cu' nu' ms' fr' F G := by
  obtain ⟨a0, h0, h1, h2, h3⟩ := hI
  have l := hl.elim (fun x => x.2.2) (fun x => by rw [e1] at x; exact absurd x.1 (by decide))
  have s := hs.elim (fun x => by rw [e2] at x; exact absurd x.1 (by decide)) (fun x => x.2)
  refine Or.inr ⟨rfl, a0, h0, h1, n.toInt.toNat, _, a, h3, Or.inr ⟨z_qF he eq, (F, G), ?_, rfl⟩⟩
  have l9 : z_fLi f t m (z_tw cl nl cp np cu nu ms fr) a = .inr (z_tw cl' nl' cp' np' cu' nu' ms' fr', a1) := l
  unfold z_fLn
  rw [z_bdR l9]
  exact z_bdL s
theorem z_RtX (hI : z_Lv f t m n a cl nl cp np cu nu ms fr) (hn : z_in 901 901 n) (b1 : z_in 0 5 nl) (b2 : z_in 0 7 np) (b3 : z_in 0 6 nu) (b4 : z_in 0 14 ms) {P : Prop} : P := by
  obtain ⟨a0, h0, h1, h2, h3⟩ := hI
  obtain ⟨e, -⟩ := z_fLsB _ (show z_ok9 z_S0 from ⟨by decide, by decide⟩) h3
  exfalso
  have s0 : z_tt9 z_S0 = 0 := by decide
  have x1 : ((z_ls cl nl).length : Int) ≤ 5 := by rw [z_lsL]; have := b1.1; have := b1.2; omega
  have x2 : ((z_ls cp np).length : Int) ≤ 7 := by rw [z_lsL]; have := b2.1; have := b2.2; omega
  have x3 : ((z_ls cu nu).length : Int) ≤ 6 := by rw [z_lsL]; have := b3.1; have := b3.2; omega
  have x4 := b4.2
  have x5 : (if fr = 0 then (0 : Int) else 1) ≤ 1 := by split <;> decide
  have et : z_tt9 (z_tw cl nl cp np cu nu ms fr) = ((z_ls cl nl).length : Int) + (z_ls cp np).length + (z_ls cu nu).length + ms.toInt + (if fr = 0 then 0 else 1) := rfl
  have n1 := hn.1
  omega
end
section
variable {f : Nat → Int32} {t m k a v b : Int32} {w : Int64}
theorem z_mt0 (h : z_mt f t m k a v w b) (hk : k = 0) (ht : z_in 0 940 t) (hm : z_in 0 940 m) : z_TE t m a := by
  obtain ⟨-, -, -, h⟩ := h
  have t0 := ht.1
  have m0 := hm.1
  rw [hk] at h
  rcases h with ⟨s, q⟩ | ⟨-, -, q⟩
  · rcases q with ⟨p, -⟩ | ⟨-, p⟩
    · exact ⟨s, by omega⟩
    · exact absurd p (by decide)
  · rcases q with q | q | q | q <;> exact absurd q.1 (by decide)
theorem z_mt0n (h : z_mt f t m k a v w b) (hk : ¬ k = 0) (ht : z_in 0 940 t) (hm : z_in 0 940 m) : ¬ z_TE t m a := by
  obtain ⟨-, -, -, h⟩ := h
  have t0 := ht.1
  have m0 := hm.1
  intro s
  rcases h with ⟨-, q⟩ | ⟨ns, -⟩
  · rcases q with ⟨-, p⟩ | ⟨p, -⟩
    · exact hk p
    · have := s.2
      omega
  · exact ns s.1
theorem z_mt3 (h : z_mt f t m k a v w b) (hk : k = 3) : z_TS f t m a v := by
  obtain ⟨-, -, -, h⟩ := h
  rw [hk] at h
  rcases h with ⟨-, q⟩ | ⟨-, -, q⟩
  · rcases q with q | q <;> exact absurd q.2 (by decide)
  · rcases q with q | q | q | q
    · exact q.2
    · exact absurd q.1 (by decide)
    · exact absurd q.1 (by decide)
    · exact absurd q.1 (by decide)
theorem z_mt3n (h : z_mt f t m k a v w b) (hk : ¬ k = 3) (x : Int32) : ¬ z_TS f t m a x := by
  obtain ⟨-, -, -, h⟩ := h
  intro s
  rcases h with ⟨st, -⟩ | ⟨-, -, q⟩
  · exact s.1 st
  · rcases q with q | q | q | q
    · exact hk q.1
    · exact z_TsNn s q.2
    · obtain ⟨-, c, l, -⟩ := q
      exact z_TsNl s l
    · exact q.2.1 x s
theorem z_mt2 (h : z_mt f t m k a v w b) (hk : k = 2) : z_TN f t m a v := by
  obtain ⟨-, -, -, h⟩ := h
  rw [hk] at h
  rcases h with ⟨-, q⟩ | ⟨-, -, q⟩
  · rcases q with q | q <;> exact absurd q.2 (by decide)
  · rcases q with q | q | q | q
    · exact absurd q.1 (by decide)
    · exact q.2
    · exact absurd q.1 (by decide)
    · exact absurd q.1 (by decide)
theorem z_mt2n (h : z_mt f t m k a v w b) (hk : ¬ k = 2) : ¬ z_hD f t m a := by
  obtain ⟨-, -, -, h⟩ := h
  rintro ⟨x, s⟩
  rcases h with ⟨st, -⟩ | ⟨-, -, q⟩
  · exact s.1 st
  · rcases q with q | q | q | q
    · exact z_TsNn q.2 s
    · exact hk q.1
    · obtain ⟨-, c, l, -⟩ := q
      exact z_TnNl s l
    · exact q.2.2.1 x s
theorem z_mt1 (h : z_mt f t m k a v w b) (hk : k = 1) : ∃ c : Int64, z_TL f t m a c ∧ z_nw w c := by
  obtain ⟨-, -, -, h⟩ := h
  rw [hk] at h
  rcases h with ⟨-, q⟩ | ⟨-, -, q⟩
  · rcases q with q | q <;> exact absurd q.2 (by decide)
  · rcases q with q | q | q | q
    · exact absurd q.1 (by decide)
    · exact absurd q.1 (by decide)
    · exact q.2
    · exact absurd q.1 (by decide)
theorem z_mt1n (h : z_mt f t m k a v w b) (hk : ¬ k = 1) (x : Int64) : ¬ z_TL f t m a x := by
  obtain ⟨-, -, -, h⟩ := h
  intro s
  rcases h with ⟨st, -⟩ | ⟨-, -, q⟩
  · exact s.1 st
  · rcases q with q | q | q | q
    · exact z_TsNl q.2 s
    · exact z_TnNl q.2 s
    · exact hk q.1
    · exact q.2.2.2 x s
theorem z_mtL (h : z_mt f t m k a v w b) : z_le9 b t := Int32.le_iff_toInt_le.mpr h.2.2.1
theorem z_mtSA {k' a' v' b' : Int32} {w' : Int64} (h : z_mt f t m k a v w b) (ns : ¬ z_stp t.toInt.toNat m.toInt.toNat a.toInt.toNat) (hx : z_TX f t m b a') (h' : z_mt f t m k' a' v' w' b') : z_SA f t m a a' := by
  refine ⟨h'.1, ns, b.toInt.toNat, ?_, hx⟩
  rcases h.2.2.2 with ⟨st, -⟩ | ⟨-, q, -⟩
  · exact absurd st ns
  · exact q
end
section
variable {f : Nat → Int32} {t m k a v b x q r got a' k' v' b' F G lo hi : Int32} {w w' j : Int64}
theorem z_SSm1 (h : z_mt f t m k a v w b) (hk : k = 3) (hv : v = x) : z_SS 1 f t m a x := Or.inl ⟨rfl, hv ▸ z_mt3 h hk⟩
theorem z_SSm0 (h : z_mt f t m k a v w b) (hk : ¬ k = 3) : z_SS 0 f t m a x := Or.inr ⟨rfl, z_mt3n h hk x⟩
theorem z_SSm2 (h : z_mt f t m k a v w b) (hk : k = 3) (hv : ¬ v = x) : z_SS 0 f t m a x := Or.inr ⟨rfl, fun q => hv ((z_mt3 h hk).2.1.symm.trans q.2.1)⟩
def z_qW (r : Int32) (f : Nat → Int32) (t m a : Int32) (j : Int64) : Prop := (r = 1 ∧ ∀ c : Int64, z_nw j c → z_TL f t m a c) ∨ (r = 0 ∧ ∀ c : Int64, z_nw j c → ¬ z_TL f t m a c)
theorem z_qW1 (h : z_mt f t m k a v w b) (hk : k = 1) (hw : w = j) : z_qW 1 f t m a j := by
  obtain ⟨c, l, n⟩ := z_mt1 h hk
  refine Or.inl ⟨rfl, fun d hd => ?_⟩
  rw [← (z_nwE n hd).mp hw]
  exact l
theorem z_qW0 (h : z_mt f t m k a v w b) (hk : ¬ k = 1) : z_qW 0 f t m a j := Or.inr ⟨rfl, fun d _ => z_mt1n h hk d⟩
theorem z_qW2 (h : z_mt f t m k a v w b) (hk : k = 1) (hw : ¬ w = j) : z_qW 0 f t m a j := by
  obtain ⟨c, l, n⟩ := z_mt1 h hk
  refine Or.inr ⟨rfl, fun d hd s => hw ((z_nwE n hd).mpr (z_TlE l s))⟩
theorem z_PsM1 (hr : r = 1) (hq : z_SS q f t m a x) (e : q = 1) (hF : z_z0 F) (hx : z_TX f t m b a') (h : z_mt f t m k a v w b) (h' : z_mt f t m k' a' v' w' b') : z_Ps f t m a x r a' F G := by
  have s := z_qT hq e
  refine Or.inl ⟨hr, hF, ?_⟩
  unfold z_fSg
  rw [z_ifT s, z_nxtE (z_mtSA h s.1 hx h')]
def z_Pm (r got : Int32) (f : Nat → Int32) (t m lo hi a a' F G : Int32) : Prop := (r = 1 ∧ z_z0 F ∧ ¬ got = -1 ∧ z_fNu f t m lo hi a = .inr (got, a')) ∨ (r = 0 ∧ z_fNu f t m lo hi a = .inl (F, G))
theorem z_Pm1 (hr : r = 0) (h : z_mt f t m k a v w b) (hk : ¬ k = 2) (hf : z_fa F G 1 a) : z_Pm r got f t m lo hi a a' F G := by
  refine Or.inr ⟨hr, ?_⟩
  unfold z_fNu
  rw [z_ifF (z_mt2n h hk), hf.1, hf.2]
theorem z_Pm2 {l9 h9 : Int} (hr : r = 0) (h : z_mt f t m k a v w b) (hk : k = 2) (hi9 : z_ii q v l9 h9) (hq : q = 0) (el : lo.toInt = l9) (eh : hi.toInt = h9) (hf : z_fa F G 2 a) : z_Pm r got f t m lo hi a a' F G := by
  have s := z_mt2 h hk
  have nq : ¬ z_in l9 h9 v := by
    rcases hi9 with ⟨y, -⟩ | ⟨-, y⟩
    · rw [hq] at y
      exact absurd y (by decide)
    · exact y
  refine Or.inr ⟨hr, ?_⟩
  unfold z_fNu
  rw [z_ifT ⟨v, s⟩, z_numE s, el, eh, z_ifF (show ¬ (l9 ≤ v.toInt ∧ v.toInt ≤ h9) from nq), hf.1, hf.2]
theorem z_Pm3 {l9 h9 : Int} (hr : r = 1) (h : z_mt f t m k a v w b) (hk : k = 2) (hi9 : z_ii q v l9 h9) (hq : q = 1) (el : lo.toInt = l9) (eh : hi.toInt = h9) (h0 : decide (0 ≤ l9) = true) (hF : z_z0 F) (hx : z_TX f t m b a') (h' : z_mt f t m k' a' v' w' b') : z_Pm r v f t m lo hi a a' F G := by
  have s := z_mt2 h hk
  have yq : z_in l9 h9 v := by
    rcases hi9 with ⟨-, y⟩ | ⟨y, -⟩
    · exact y
    · rw [hq] at y
      exact absurd y (by decide)
  have nv : ¬ v = -1 := fun e => by
    have h0 := of_decide_eq_true h0
    have y := yq.1
    rw [e] at y
    have e1 : (-1 : Int32).toInt = -1 := rfl
    omega
  refine Or.inl ⟨hr, hF, nv, ?_⟩
  unfold z_fNu
  rw [z_ifT ⟨v, s⟩, z_numE s, el, eh, z_ifT (show l9 ≤ v.toInt ∧ v.toInt ≤ h9 from yq), z_nxtE (z_mtSA h s.1 hx h')]
end
noncomputable def z_cv (w : Int64) : Int64 := @Classical.epsilon Int64 ⟨0⟩ (fun c => z_nw w c)
theorem z_cvS {w c : Int64} (h : z_nw w c) : z_nw w (z_cv w) := @Classical.epsilon_spec_aux Int64 ⟨0⟩ (fun c => z_nw w c) ⟨c, h⟩
theorem z_cvE {w c : Int64} (h : z_nw w c) : z_cv w = c := (z_nwE (z_cvS h) h).mp rfl
def z_vn (nm : Nat → Int64) (o : Nat) (n : Int32) : Prop := ∀ k : Nat, k < n.toInt.toNat → ∃ c : Int64, z_nw (nm (o + k)) c
noncomputable def z_mls (nm : Nat → Int64) (o : Nat) (n : Int32) : List Int64 := (List.range n.toInt.toNat).map (fun k => z_cv (nm (o + k)))
theorem z_mlsG {nm : Nat → Int64} {o : Nat} {n : Int32} (k : Nat) : (z_mls nm o n)[k]? = if k < n.toInt.toNat then some (z_cv (nm (o + k))) else none := by
  unfold z_mls
  rw [List.getElem?_map]
  split
  · next hk => rw [List.getElem?_range hk]; rfl
  · next hk => rw [List.getElem?_eq_none (by rw [List.length_range]; omega)]; rfl
theorem z_mlsL {nm : Nat → Int64} {o : Nat} {n : Int32} : (z_mls nm o n).length = n.toInt.toNat := by simp [z_mls]
def z_fm (r : Int32) (nm : Nat → Int64) (o : Nat) (n : Int32) (w : Int64) : Prop := (r = -1 ∧ ∀ k : Nat, k < n.toInt.toNat → ¬ nm (o + k) = w) ∨ (∃ k : Nat, r.toInt = (k : Int) ∧ k < n.toInt.toNat ∧ nm (o + k) = w ∧ ∀ j : Nat, j < k → ¬ nm (o + j) = w)
theorem z_fmD {r : Int32} {nm : Nat → Int64} {o : Nat} {n : Int32} {w c : Int64} (h : z_fm r nm o n w) (hv : z_vn nm o n) (hw : z_nw w c) : z_fnd (z_mls nm o n) c r := by
  have key : ∀ k : Nat, k < n.toInt.toNat → (z_cv (nm (o + k)) = c ↔ nm (o + k) = w) := fun k hk => by
    obtain ⟨d, hd⟩ := hv k hk
    rw [z_cvE hd]
    exact (z_nwE hd hw).symm
  rcases h with ⟨e, h⟩ | ⟨k, e, l, h1, h2⟩
  · refine Or.inl ⟨e, fun k => ?_⟩
    rw [z_mlsG]
    split
    · next hk => exact fun q => h k hk ((key k hk).mp (Option.some.inj q))
    · exact fun q => by cases q
  · refine Or.inr ⟨k, e, ?_, fun j hj => ?_⟩
    · rw [z_mlsG, if_pos l]
      exact congrArg some ((key k l).mpr h1)
    · rw [z_mlsG, if_pos (by omega)]
      exact fun q => h2 j hj ((key j (by omega)).mp (Option.some.inj q))
def z_rsv (rv : Nat → Int64) : Prop := ∀ i : Nat, i < 21 → z_nw (rv i) (z_cds.getD (i + 1) 0)
def z_ij (is tok : Int32) (w : Int64) (rv : Nat → Int64) (k : Int32) : Prop := 0 ≤ k.toInt ∧ ((is = 1 ∧ tok = 1 ∧ ∀ j : Nat, j < k.toInt.toNat → ¬ w = rv j) ∨ (is = 0 ∧ ¬ (tok = 1 ∧ ∀ j : Nat, j < k.toInt.toNat → ¬ w = rv j)))
section
variable {is tok k k1 : Int32} {w y : Int64} {rv : Nat → Int64}
theorem z_ij0 (h : tok = 1) : z_ij 1 tok w rv 0 := ⟨by decide, Or.inl ⟨rfl, h, fun j hj => absurd hj (Nat.not_lt_zero j)⟩⟩
theorem z_ij1 (h : ¬ tok = 1) : z_ij 0 tok w rv 0 := ⟨by decide, Or.inr ⟨rfl, fun q => h q.1⟩⟩
theorem z_ijN (tk : k1.toInt = k.toInt + 1) (hI : z_ij is tok w rv k) (e : is = 0) : z_ij 0 tok w rv k1 := by
  obtain ⟨h0, h⟩ := hI
  refine ⟨by omega, Or.inr ⟨rfl, fun q => ?_⟩⟩
  rcases h with ⟨x, -⟩ | ⟨-, x⟩
  · rw [e] at x
    exact absurd x (by decide)
  · exact x ⟨q.1, fun j hj => q.2 j (by omega)⟩
theorem z_ijS (tk : k1.toInt = k.toInt + 1) (hI : z_ij is tok w rv k) (e : is = 1) (ey : y = rv k.toNatClampNeg) (hn : ¬ w = y) : z_ij 1 tok w rv k1 := by
  obtain ⟨h0, h⟩ := hI
  have ek : k.toNatClampNeg = k.toInt.toNat := rfl
  rcases h with ⟨-, x, z⟩ | ⟨x, -⟩
  · refine ⟨by omega, Or.inl ⟨rfl, x, fun j hj => ?_⟩⟩
    rcases Nat.lt_or_ge j k.toInt.toNat with q | q
    · exact z j q
    · have e2 : j = k.toNatClampNeg := by omega
      rw [e2, ← ey]
      exact hn
  · rw [e] at x
    exact absurd x (by decide)
theorem z_ijF (tk : k1.toInt = k.toInt + 1) (hI : z_ij is tok w rv k) (ey : y = rv k.toNatClampNeg) (hn : w = y) : z_ij 0 tok w rv k1 := by
  obtain ⟨h0, -⟩ := hI
  have ek : k.toNatClampNeg = k.toInt.toNat := rfl
  refine ⟨by omega, Or.inr ⟨rfl, fun q => q.2 k.toInt.toNat (by omega) ?_⟩⟩
  rw [← ek, ← ey]
  exact hn
end
def z_Nm9 (r : Int32) (f : Nat → Int32) (t m a : Int32) (w : Int64) : Prop := (r = 1 ∧ ∃ c : Int64, z_NM f t m a c ∧ z_nw w c) ∨ (r = 0 ∧ ¬ z_hN f t m a)
theorem z_Nm9I {r tok k a v b t m : Int32} {w : Int64} {rv : Nat → Int64} {f : Nat → Int32} (hI : z_ij r tok w rv k) (hk : z_in 21 21 k) (hm : z_mt f t m tok a v w b) (hr : z_rsv rv) : z_Nm9 r f t m a w := by
  obtain ⟨-, h⟩ := hI
  have k1 := hk.1
  have k2 := hk.2
  have kn : k.toInt.toNat = 21 := by omega
  rw [kn] at h
  rcases h with ⟨e, e1, x⟩ | ⟨e, x⟩
  · obtain ⟨c, l, n⟩ := z_mt1 hm e1
    refine Or.inl ⟨e, c, ⟨l, fun i i1 i2 q => ?_⟩, n⟩
    have s := hr (i - 1) (by omega)
    have ei : i - 1 + 1 = i := by omega
    rw [ei] at s
    exact x (i - 1) (by omega) ((z_nwE n s).mpr q)
  · refine Or.inr ⟨e, fun q => ?_⟩
    obtain ⟨c, l, q2⟩ := q
    by_cases e1 : tok = 1
    · obtain ⟨d, l2, n⟩ := z_mt1 hm e1
      have ed := z_TlE l l2
      exact x ⟨e1, fun j hj s => q2 (j + 1) (by omega) (by omega) (ed.trans ((z_nwE n (hr j hj)).mp s))⟩
    · exact z_mt1n hm e1 c l
def z_fmj (nm : Nat → Int64) (o : Nat) (w : Int64) (i : Int32) : Prop := 0 ≤ i.toInt ∧ ∀ j : Nat, j < i.toInt.toNat → ¬ nm (o + j) = w
theorem z_fmj0 {nm : Nat → Int64} {o : Nat} {w : Int64} : z_fmj nm o w 0 := ⟨by decide, fun j h => absurd h (Nat.not_lt_zero j)⟩
theorem z_fmjS {nm : Nat → Int64} {o : Nat} {w y : Int64} {i i1 x : Int32} (hI : z_fmj nm o w i) (ti : i1.toInt = i.toInt + 1) (tx : x.toInt = i.toInt + (o : Int)) (ey : y = nm x.toNatClampNeg) (hn : ¬ y = w) : z_fmj nm o w i1 := by
  have h0 := hI.1
  have ex : x.toNatClampNeg = x.toInt.toNat := rfl
  refine ⟨by omega, fun j hj => ?_⟩
  rcases Nat.lt_or_ge j i.toInt.toNat with q | q
  · exact hI.2 j q
  · have e : o + j = x.toNatClampNeg := by omega
    rw [e, ← ey]
    exact hn
theorem z_fmF {nm : Nat → Int64} {o : Nat} {w y : Int64} {i n x : Int32} (hI : z_fmj nm o w i) (hl : i < n) (tx : x.toInt = i.toInt + (o : Int)) (ey : y = nm x.toNatClampNeg) (hn : y = w) : z_fm i nm o n w := by
  have h0 := hI.1
  have hl := Int32.lt_iff_toInt_lt.mp hl
  have ex : x.toNatClampNeg = x.toInt.toNat := rfl
  refine Or.inr ⟨i.toInt.toNat, by omega, by omega, ?_, hI.2⟩
  have e : o + i.toInt.toNat = x.toNatClampNeg := by omega
  rw [e, ← ey]
  exact hn
theorem z_fmN {nm : Nat → Int64} {o : Nat} {w : Int64} {i n : Int32} (hI : z_fmj nm o w i) (hl : n ≤ i) : z_fm (-1) nm o n w := by
  have hl := Int32.le_iff_toInt_le.mp hl
  exact Or.inl ⟨rfl, fun k hk => hI.2 k (by omega)⟩
theorem z_fmjS0 {nm : Nat → Int64} {w y : Int64} {i i1 : Int32} (hI : z_fmj nm 0 w i) (ti : i1.toInt = i.toInt + 1) (ey : y = nm i.toNatClampNeg) (hn : ¬ y = w) : z_fmj nm 0 w i1 := z_fmjS hI ti (x := i) (by simp) ey hn
theorem z_fmF0 {nm : Nat → Int64} {w y : Int64} {i n : Int32} (hI : z_fmj nm 0 w i) (hl : i < n) (ey : y = nm i.toNatClampNeg) (hn : y = w) : z_fm i nm 0 n w := z_fmF hI hl (x := i) (by simp) ey hn
def z_Km (r got : Int32) (f : Nat → Int32) (t m a : Int32) (nm : Nat → Int64) (o : Nat) (n F G : Int32) : Prop := (r = 1 ∧ z_z0 F ∧ ¬ got = -1 ∧ z_fKn f t m (z_mls nm o n) a = .inr got) ∨ (r = 0 ∧ z_fKn f t m (z_mls nm o n) a = .inl (F, G))
section
variable {r got t m a n F G q k v b a' k' v' b' : Int32} {f : Nat → Int32} {nm : Nat → Int64} {o : Nat} {w w' : Int64}
theorem z_Nm9F (hq : z_Nm9 q f t m a w) (e : q = 0) : ¬ z_hN f t m a := by
  rcases hq with ⟨h, -⟩ | ⟨-, h⟩
  · rw [e] at h
    exact absurd h (by decide)
  · exact h
theorem z_Nm9T (hq : z_Nm9 q f t m a w) (e : q = 1) : ∃ c : Int64, z_NM f t m a c ∧ z_nw w c := by
  rcases hq with ⟨-, h⟩ | ⟨h, -⟩
  · exact h
  · rw [e] at h
    exact absurd h (by decide)
theorem z_Km1 (hr : r = 0) (hq : z_Nm9 q f t m a w) (e : q = 0) (hf : z_fa F G 1 a) : z_Km r got f t m a nm o n F G := by
  refine Or.inr ⟨hr, ?_⟩
  unfold z_fKn
  rw [z_ifF (z_Nm9F hq e), hf.1, hf.2]
theorem z_Km3 (hr : r = 0) (hq : z_Nm9 q f t m a w) (e : q = 1) (hv : z_vn nm o n) (hd : z_fm got nm o n w) (hg : got = -1) (hf : z_fa F G 3 a) : z_Km r got f t m a nm o n F G := by
  obtain ⟨c, h, hw⟩ := z_Nm9T hq e
  refine Or.inr ⟨hr, ?_⟩
  unfold z_fKn
  rw [z_ifT ⟨c, h⟩, z_namE h, z_fidE (z_fmD hd hv hw), z_ifT hg, hf.1, hf.2]
theorem z_Km0 (hr : r = 1) (hq : z_Nm9 q f t m a w) (e : q = 1) (hv : z_vn nm o n) (hd : z_fm got nm o n w) (hg : ¬ got = -1) (hF : z_z0 F) : z_Km r got f t m a nm o n F G := by
  obtain ⟨c, h, hw⟩ := z_Nm9T hq e
  refine Or.inl ⟨hr, hF, hg, ?_⟩
  unfold z_fKn
  rw [z_ifT ⟨c, h⟩, z_namE h, z_fidE (z_fmD hd hv hw), z_ifF hg]
def z_Pkm (r got : Int32) (f : Nat → Int32) (t m a : Int32) (nm : Nat → Int64) (o : Nat) (n a' F G : Int32) : Prop := (r = 1 ∧ z_z0 F ∧ ¬ got = -1 ∧ z_fPk f t m (z_mls nm o n) a = .inr (got, a')) ∨ (r = 0 ∧ z_fPk f t m (z_mls nm o n) a = .inl (F, G))
theorem z_Pkm0 {r1 : Int32} (hr : r = 0) (h : z_Km r1 got f t m a nm o n F G) (e : r1 = 0) : z_Pkm r got f t m a nm o n a' F G := by
  rcases h with ⟨q, -⟩ | ⟨-, q⟩
  · rw [e] at q
    exact absurd q (by decide)
  · exact Or.inr ⟨hr, z_bdL q⟩
theorem z_Pkm1 {r1 : Int32} (hr : r = 1) (h : z_Km r1 got f t m a nm o n F G) (e : r1 = 1) (hm : z_mt f t m k a v w b) (hx : z_TX f t m b a') (hm' : z_mt f t m k' a' v' w' b') : z_Pkm r got f t m a nm o n a' F G := by
  rcases h with ⟨-, q0, q1, q⟩ | ⟨q, -⟩
  · refine Or.inl ⟨hr, q0, q1, ?_⟩
    unfold z_fPk
    rw [z_bdR q, z_nxtE (z_mtSA hm (z_KnS q) hx hm')]
  · rw [e] at q
    exact absurd q (by decide)
end
def z_vh (nm : Nat → Int64) (h : Nat → Int32) : Prop := z_vn nm 18 (h 0) ∧ z_vn nm 23 (h 1) ∧ z_vn nm 30 (h 3)
def z_Pwm (r : Int32) (f : Nat → Int32) (t m a : Int32) (nm : Nat → Int64) (h : Nat → Int32) (to : Int32) (w : Int64) (nm' : Nat → Int64) (a' F G : Int32) : Prop := (r = 1 ∧ z_z0 F ∧ z_fNw f t m (z_mls nm 18 (h 0)) (z_mls nm 23 (h 1)) (z_mls nm 30 (h 3)) a = .inr (z_cv w, a') ∧ nm' = vp_updL nm to.toInt.toNat w ∧ z_nw w (z_cv w)) ∨ (r = 0 ∧ z_fNw f t m (z_mls nm 18 (h 0)) (z_mls nm 23 (h 1)) (z_mls nm 30 (h 3)) a = .inl (F, G))
section
variable {r t m a to F G q k v b a' k' v' b' x y z n0 n1 n3 : Int32} {f h : Nat → Int32} {nm nm' : Nat → Int64} {w w' : Int64}
theorem z_Pwm1 (hr : r = 0) (hq : z_Nm9 q f t m a w) (e : q = 0) (hf : z_fa F G 1 a) : z_Pwm r f t m a nm h to w nm' a' F G := by
  refine Or.inr ⟨hr, ?_⟩
  unfold z_fNw
  rw [z_ifF (z_Nm9F hq e), hf.1, hf.2]
theorem z_Pwm3 (hr : r = 0) (hq : z_Nm9 q f t m a w) (e : q = 1) (hn : ∀ c : Int64, z_nw w c → ¬ (z_fid (z_mls nm 18 (h 0)) c = -1 ∧ z_fid (z_mls nm 23 (h 1)) c = -1 ∧ z_fid (z_mls nm 30 (h 3)) c = -1)) (hf : z_fa F G 3 a) : z_Pwm r f t m a nm h to w nm' a' F G := by
  obtain ⟨c, hc, hw⟩ := z_Nm9T hq e
  refine Or.inr ⟨hr, ?_⟩
  unfold z_fNw
  rw [z_ifT ⟨c, hc⟩, z_namE hc, z_ifF (hn c hw), hf.1, hf.2]
theorem z_Pwm3a (hr : r = 0) (hq : z_Nm9 q f t m a w) (e : q = 1) (hv : z_vh nm h) (hd : z_fm x nm 18 n0 w) (e0 : n0 = h (0 : Int32).toNatClampNeg) (hx : ¬ x = -1) (hf : z_fa F G 3 a) : z_Pwm r f t m a nm h to w nm' a' F G := by
  have e0 : n0 = h 0 := e0
  rw [e0] at hd
  exact z_Pwm3 hr hq e (fun c hw s => hx ((z_fidE (z_fmD hd hv.1 hw)).symm.trans s.1)) hf
theorem z_Pwm3b (hr : r = 0) (hq : z_Nm9 q f t m a w) (e : q = 1) (hv : z_vh nm h) (hd : z_fm x nm 23 n1 w) (e1 : n1 = h (1 : Int32).toNatClampNeg) (hx : ¬ x = -1) (hf : z_fa F G 3 a) : z_Pwm r f t m a nm h to w nm' a' F G := by
  have e1 : n1 = h 1 := e1
  rw [e1] at hd
  exact z_Pwm3 hr hq e (fun c hw s => hx ((z_fidE (z_fmD hd hv.2.1 hw)).symm.trans s.2.1)) hf
theorem z_Pwm3c (hr : r = 0) (hq : z_Nm9 q f t m a w) (e : q = 1) (hv : z_vh nm h) (hd : z_fm x nm 30 n3 w) (e3 : n3 = h (3 : Int32).toNatClampNeg) (hx : ¬ x = -1) (hf : z_fa F G 3 a) : z_Pwm r f t m a nm h to w nm' a' F G := by
  have e3 : n3 = h 3 := e3
  rw [e3] at hd
  exact z_Pwm3 hr hq e (fun c hw s => hx ((z_fidE (z_fmD hd hv.2.2 hw)).symm.trans s.2.2)) hf
theorem z_Pwm0 (hr : r = 1) (hq : z_Nm9 q f t m a w) (e : q = 1) (hv : z_vh nm h) (d0 : z_fm x nm 18 n0 w) (e0 : n0 = h (0 : Int32).toNatClampNeg) (hx : x = -1) (d1 : z_fm y nm 23 n1 w) (e1 : n1 = h (1 : Int32).toNatClampNeg) (hy : y = -1) (d3 : z_fm z nm 30 n3 w) (e3 : n3 = h (3 : Int32).toNatClampNeg) (hz : z = -1) (hF : z_z0 F) (eu : vp_updL nm to.toNatClampNeg w = nm') (hm : z_mt f t m k a v w b) (ht : z_TX f t m b a') (hm' : z_mt f t m k' a' v' w' b') : z_Pwm r f t m a nm h to w nm' a' F G := by
  have e0 : n0 = h 0 := e0
  have e1 : n1 = h 1 := e1
  have e3 : n3 = h 3 := e3
  rw [e0] at d0
  rw [e1] at d1
  rw [e3] at d3
  obtain ⟨c, hc, hw⟩ := z_Nm9T hq e
  refine Or.inl ⟨hr, hF, ?_, eu.symm, z_cvS hw⟩
  unfold z_fNw
  rw [z_ifT ⟨c, hc⟩, z_namE hc, z_ifT ⟨(z_fidE (z_fmD d0 hv.1 hw)).trans hx, (z_fidE (z_fmD d1 hv.2.1 hw)).trans hy, (z_fidE (z_fmD d3 hv.2.2 hw)).trans hz⟩, z_nxtE (z_mtSA hm hc.1.1 ht hm'), z_cvE hw]
end
theorem z_vhn0 {nm : Nat → Int64} {h : Nat → Int32} {n : Int32} (hv : z_vh nm h) (e : n = h (0 : Int32).toNatClampNeg) : z_vn nm 18 n := by
  have e : n = h 0 := e
  rw [e]
  exact hv.1
theorem z_vhn1 {nm : Nat → Int64} {h : Nat → Int32} {n : Int32} (hv : z_vh nm h) (e : n = h (1 : Int32).toNatClampNeg) : z_vn nm 23 n := by
  have e : n = h 1 := e
  rw [e]
  exact hv.2.1
theorem z_vhn3 {nm : Nat → Int64} {h : Nat → Int32} {n : Int32} (hv : z_vh nm h) (e : n = h (3 : Int32).toNatClampNeg) : z_vn nm 30 n := by
  have e : n = h 3 := e
  rw [e]
  exact hv.2.2
theorem z_PmF {r got t m lo hi a a' F G : Int32} {f : Nat → Int32} (h : z_Pm r got f t m lo hi a a' F G) (e : r = 1) : z_z0 F := h.elim (fun q => q.2.1) (fun q => by rw [e] at q; exact absurd q.1 (by decide))
theorem z_KmF {r got t m a n F G : Int32} {f : Nat → Int32} {nm : Nat → Int64} {o : Nat} (h : z_Km r got f t m a nm o n F G) (e : r = 1) : z_z0 F := h.elim (fun q => q.2.1) (fun q => by rw [e] at q; exact absurd q.1 (by decide))
theorem z_PkmF {r got t m a n a' F G : Int32} {f : Nat → Int32} {nm : Nat → Int64} {o : Nat} (h : z_Pkm r got f t m a nm o n a' F G) (e : r = 1) : z_z0 F := h.elim (fun q => q.2.1) (fun q => by rw [e] at q; exact absurd q.1 (by decide))
theorem z_PwmF {r t m a to a' F G : Int32} {f h : Nat → Int32} {nm nm' : Nat → Int64} {w : Int64} (hw : z_Pwm r f t m a nm h to w nm' a' F G) (e : r = 1) : z_z0 F := hw.elim (fun q => q.2.1) (fun q => by rw [e] at q; exact absurd q.1 (by decide))
noncomputable def z_mtw (nm : Nat → Int64) (h : Nat → Int32) (b : Int32) : z_TW := (z_mls nm 18 (h 0), z_mls nm 23 (h 1), z_mls nm 30 (h 3), h 2, if b = 0 then 0 else h 4)
def z_RM (k : Nat) (f : Nat → Int32) (t m a : Int32) (nm : Nat → Int64) (h : Nat → Int32) (b r a' : Int32) (nm' : Nat → Int64) (h' : Nat → Int32) (b' F G : Int32) : Prop := z_RL (z_gK k f t m) (z_mtw nm h b) a r (z_mtw nm' h' b') a' F G
def z_k5 (h h' : Nat → Int32) : Prop := h' 0 = h 0 ∧ h' 1 = h 1 ∧ h' 2 = h 2 ∧ h' 3 = h 3 ∧ h' 4 = h 4
theorem z_k5r (h : Nat → Int32) : z_k5 h h := ⟨rfl, rfl, rfl, rfl, rfl⟩
theorem z_k5t {f g h : Nat → Int32} (p : z_k5 f g) (q : z_k5 g h) : z_k5 f h := ⟨q.1.trans p.1, q.2.1.trans p.2.1, q.2.2.1.trans p.2.2.1, q.2.2.2.1.trans p.2.2.2.1, q.2.2.2.2.trans p.2.2.2.2⟩
theorem z_k5u {h : Nat → Int32} {i x : Int32} {a : Int} (hi : z_in 5 a i) : z_k5 h (upd h i.toNatClampNeg x) := by
  have h1 := hi.1
  have e : i.toNatClampNeg = i.toInt.toNat := rfl
  have u : ∀ j : Nat, j < 5 → upd h i.toNatClampNeg x j = h j := fun j hj => by
    show (if j = i.toNatClampNeg then x else h j) = h j
    rw [if_neg (by omega)]
  exact ⟨u 0 (by decide), u 1 (by decide), u 2 (by decide), u 3 (by decide), u 4 (by decide)⟩
section
variable {nm nm' : Nat → Int64} {o p : Nat} {n n' : Int32} {w : Int64}
theorem z_mlsU (hp : p < o ∨ o + n.toInt.toNat ≤ p) : z_mls (vp_updL nm p w) o n = z_mls nm o n := by
  unfold z_mls
  apply List.map_congr_left
  intro j hj
  have hj := List.mem_range.mp hj
  show z_cv (if o + j = p then w else nm (o + j)) = z_cv (nm (o + j))
  rw [if_neg (by omega)]
theorem z_mlsA (hp : p = o + n.toInt.toNat) (tn : n'.toInt = n.toInt + 1) (h0 : 0 ≤ n.toInt) : z_mls (vp_updL nm p w) o n' = z_mls nm o n ++ [z_cv w] := by
  have en : n'.toInt.toNat = n.toInt.toNat + 1 := by omega
  have u := z_mlsU (nm := nm) (o := o) (n := n) (w := w) (p := p) (Or.inr (by omega))
  unfold z_mls at u
  unfold z_mls
  rw [en, List.range_succ, List.map_append, u]
  congr 1
  show [z_cv (if o + n.toInt.toNat = p then w else nm (o + n.toInt.toNat))] = [z_cv w]
  rw [if_pos hp.symm]
theorem z_vnU (h : z_vn nm o n) (hp : p < o ∨ o + n.toInt.toNat ≤ p) : z_vn (vp_updL nm p w) o n := by
  intro k hk
  show ∃ c, z_nw (if o + k = p then w else nm (o + k)) c
  rw [if_neg (by omega)]
  exact h k hk
theorem z_vnA {c : Int64} (h : z_vn nm o n) (hw : z_nw w c) (hp : p = o + n.toInt.toNat) (tn : n'.toInt = n.toInt + 1) (h0 : 0 ≤ n.toInt) : z_vn (vp_updL nm p w) o n' := by
  intro k hk
  show ∃ c, z_nw (if o + k = p then w else nm (o + k)) c
  by_cases e : o + k = p
  · rw [if_pos e]
    exact ⟨c, hw⟩
  · rw [if_neg e]
    exact h k (by omega)
end
theorem z_mP {nm : Nat → Int64} {h h' : Nat → Int32} {to b : Int32} {w : Int64} (b0 : z_in 0 4 (h 0)) (b1 : z_in 0 7 (h 1)) (b3 : z_in 0 6 (h 3)) (tt : to.toInt = (h 0).toInt + 18) (e0 : (h' 0).toInt = (h 0).toInt + 1) (e1 : h' 1 = h 1) (e2 : h' 2 = h 2) (e3 : h' 3 = h 3) (e4 : h' 4 = h 4) : z_mtw (vp_updL nm to.toInt.toNat w) h' b = (z_mls nm 18 (h 0) ++ [z_cv w], z_mls nm 23 (h 1), z_mls nm 30 (h 3), h 2, if b = 0 then 0 else h 4) := by
  have x0 := b0.1
  have y0 := b0.2
  have x1 := b1.1
  have x3 := b3.1
  unfold z_mtw
  rw [e1, e2, e3, e4, z_mlsA (n := h 0) (by omega) e0 x0, z_mlsU (Or.inl (by omega)), z_mlsU (Or.inl (by omega))]
theorem z_mQ {nm : Nat → Int64} {h h' : Nat → Int32} {to b : Int32} {w : Int64} (b0 : z_in 0 5 (h 0)) (b1 : z_in 0 6 (h 1)) (b3 : z_in 0 6 (h 3)) (tt : to.toInt = (h 1).toInt + 23) (e0 : (h' 1).toInt = (h 1).toInt + 1) (e1 : h' 0 = h 0) (e2 : h' 2 = h 2) (e3 : h' 3 = h 3) (e4 : h' 4 = h 4) : z_mtw (vp_updL nm to.toInt.toNat w) h' b = (z_mls nm 18 (h 0), z_mls nm 23 (h 1) ++ [z_cv w], z_mls nm 30 (h 3), h 2, if b = 0 then 0 else h 4) := by
  have x0 := b0.1
  have y0 := b0.2
  have x1 := b1.1
  have y1 := b1.2
  have x3 := b3.1
  unfold z_mtw
  rw [e1, e2, e3, e4, z_mlsA (n := h 1) (by omega) e0 x1, z_mlsU (Or.inr (by omega)), z_mlsU (Or.inl (by omega))]
theorem z_mU {nm : Nat → Int64} {h h' : Nat → Int32} {to b : Int32} {w : Int64} (b0 : z_in 0 5 (h 0)) (b1 : z_in 0 7 (h 1)) (b3 : z_in 0 5 (h 3)) (tt : to.toInt = (h 3).toInt + 30) (e0 : (h' 3).toInt = (h 3).toInt + 1) (e1 : h' 0 = h 0) (e2 : h' 2 = h 2) (e3 : h' 1 = h 1) (e4 : h' 4 = h 4) : z_mtw (vp_updL nm to.toInt.toNat w) h' b = (z_mls nm 18 (h 0), z_mls nm 23 (h 1), z_mls nm 30 (h 3) ++ [z_cv w], h 2, if b = 0 then 0 else h 4) := by
  have x0 := b0.1
  have y0 := b0.2
  have x1 := b1.1
  have y1 := b1.2
  have x3 := b3.1
  unfold z_mtw
  rw [e1, e2, e3, e4, z_mlsA (n := h 3) (by omega) e0 x3, z_mlsU (Or.inr (by omega)), z_mlsU (Or.inr (by omega))]
theorem z_nwI {w c : Int64} (l : List Int32) (h7 : l.length ≤ 7) (hl : ∀ j : Nat, j < l.length → z_isL (l.getD j 0 &&& 255)) (ew : w = z_w8 (fun k => l.getD k 0) 0 l.length) (ec : c = z_c5 (fun k => l.getD k 0) 0 l.length) : z_nw w c := ⟨fun k => l.getD k 0, 0, l.length, h7, fun j hj => by
  have q := hl j hj
  show z_isL (l.getD (0 + j) 0 &&& 255)
  rw [Nat.zero_add]
  exact q, ew, ec⟩
theorem z_wd1 : z_nw 482854658917 (z_cds.getD 1 0) := z_nwI [112, 108, 97, 99, 101] (by decide) (by unfold z_isL; decide) (by decide +kernel) (by decide +kernel)
theorem z_wd2 : z_nw 123581014175598 (z_cds.getD 2 0) := z_nwI [112, 101, 114, 115, 111, 110] (by decide) (by unfold z_isL; decide) (by decide +kernel) (by decide +kernel)
theorem z_wd3 : z_nw 448377742451 (z_cds.getD 3 0) := z_nwI [104, 101, 101, 100, 115] (by decide) (by unfold z_isL; decide) (by decide +kernel) (by decide +kernel)
theorem z_wd4 : z_nw 126922498666359 (z_cds.getD 4 0) := z_nwI [115, 111, 114, 114, 111, 119] (by decide) (by unfold z_isL; decide) (by decide +kernel) (by decide +kernel)
theorem z_wd5 : z_nw 108243635170425 (z_cds.getD 5 0) := z_nwI [98, 114, 111, 108, 108, 121] (by decide) (by unfold z_isL; decide) (by decide +kernel) (by decide +kernel)
theorem z_wd6 : z_nw 6709618 (z_cds.getD 6 0) := z_nwI [102, 97, 114] (by decide) (by unfold z_isL; decide) (by decide +kernel) (by decide +kernel)
theorem z_wd7 : z_nw 1735353715 (z_cds.getD 7 0) := z_nwI [103, 111, 101, 115] (by decide) (by unfold z_isL; decide) (by decide +kernel) (by decide +kernel)
theorem z_wd8 : z_nw 499850634611 (z_cds.getD 8 0) := z_nwI [116, 97, 107, 101, 115] (by decide) (by unfold z_isL; decide) (by decide +kernel) (by decide +kernel)
theorem z_wd9 : z_nw 119182682645875 (z_cds.getD 9 0) := z_nwI [108, 101, 97, 118, 101, 115] (by decide) (by unfold z_isL; decide) (by decide +kernel) (by decide +kernel)
theorem z_wd10 : z_nw 28839564633334124 (z_cds.getD 10 0) := z_nwI [102, 117, 110, 101, 114, 97, 108] (by decide) (by unfold z_isL; decide) (by decide +kernel) (by decide +kernel)
theorem z_wd11 : z_nw 6578553 (z_cds.getD 11 0) := z_nwI [100, 97, 121] (by decide) (by unfold z_isL; decide) (by decide +kernel) (by decide +kernel)
theorem z_wd12 : z_nw 28530 (z_cds.getD 12 0) := z_nwI [111, 114] (by decide) (by unfold z_isL; decide) (by decide +kernel) (by decide +kernel)
theorem z_wd13 : z_nw 6385252 (z_cds.getD 13 0) := z_nwI [97, 110, 100] (by decide) (by unfold z_isL; decide) (by decide +kernel) (by decide +kernel)
theorem z_wd14 : z_nw 7237492 (z_cds.getD 14 0) := z_nwI [110, 111, 116] (by decide) (by unfold z_isL; decide) (by decide +kernel) (by decide +kernel)
theorem z_wd15 : z_nw 418431069797 (z_cds.getD 15 0) := z_nwI [97, 108, 111, 110, 101] (by decide) (by unfold z_isL; decide) (by decide +kernel) (by decide +kernel)
theorem z_wd16 : z_nw 469852319348 (z_cds.getD 16 0) := z_nwI [109, 101, 97, 110, 116] (by decide) (by unfold z_isL; decide) (by decide +kernel) (by decide +kernel)
theorem z_wd17 : z_nw 24948 (z_cds.getD 17 0) := z_nwI [97, 116] (by decide) (by unfold z_isL; decide) (by decide +kernel) (by decide +kernel)
theorem z_wd18 : z_nw 2003399784 (z_cds.getD 18 0) := z_nwI [119, 105, 116, 104] (by decide) (by unfold z_isL; decide) (by decide +kernel) (by decide +kernel)
theorem z_wd19 : z_nw 418363302244 (z_cds.getD 19 0) := z_nwI [97, 104, 101, 97, 100] (by decide) (by unfold z_isL; decide) (by decide +kernel) (by decide +kernel)
theorem z_wd20 : z_nw 2003136628 (z_cds.getD 20 0) := z_nwI [119, 101, 112, 116] (by decide) (by unfold z_isL; decide) (by decide +kernel) (by decide +kernel)
theorem z_wd21 : z_nw 121450625394034 (z_cds.getD 21 0) := z_nwI [110, 117, 109, 98, 101, 114] (by decide) (by unfold z_isL; decide) (by decide +kernel) (by decide +kernel)
def z_Pp (r : Int32) (f : Nat → Int32) (t m lo hi a a' F G : Int32) (h : Nat → Int32) (to : Int32) (h' : Nat → Int32) : Prop := (r = 1 ∧ z_z0 F ∧ ∃ got : Int32, ¬ got = -1 ∧ z_fNu f t m lo hi a = .inr (got, a') ∧ h' = upd h to.toInt.toNat got) ∨ (r = 0 ∧ h' = h ∧ z_fNu f t m lo hi a = .inl (F, G))
theorem z_Pp0 {r r1 got t m lo hi a a' F G to : Int32} {f h : Nat → Int32} (hr : r = 0) (hp : z_Pm r1 got f t m lo hi a a' F G) (e : r1 = 0) : z_Pp r f t m lo hi a a' F G h to h := by
  rcases hp with ⟨q, -⟩ | ⟨-, q⟩
  · rw [e] at q
    exact absurd q (by decide)
  · exact Or.inr ⟨hr, rfl, q⟩
theorem z_Pp1 {r r1 got t m lo hi a a' F G to : Int32} {f h h' : Nat → Int32} (hr : r = 1) (hp : z_Pm r1 got f t m lo hi a a' F G) (e : r1 = 1) (eh : upd h to.toNatClampNeg got = h') : z_Pp r f t m lo hi a a' F G h to h' := by
  rcases hp with ⟨-, q0, q1, q2⟩ | ⟨q, -⟩
  · exact Or.inl ⟨hr, q0, got, q1, q2, eh.symm⟩
  · rw [e] at q
    exact absurd q (by decide)
theorem z_PpF {r t m lo hi a a' F G to : Int32} {f h h' : Nat → Int32} (hp : z_Pp r f t m lo hi a a' F G h to h') (e : r = 1) : z_z0 F := hp.elim (fun q => q.2.1) (fun q => by rw [e] at q; exact absurd q.1 (by decide))
theorem z_PpL {r t m lo hi a a' F G to : Int32} {f h h' : Nat → Int32} (hp : z_Pp r f t m lo hi a a' F G h to h') (e : r = 0) : z_fNu f t m lo hi a = .inl (F, G) := hp.elim (fun q => by rw [e] at q; exact absurd q.1 (by decide)) (fun q => q.2.2)
theorem z_PpR {r t m lo hi a a' F G to : Int32} {f h h' : Nat → Int32} (hp : z_Pp r f t m lo hi a a' F G h to h') (e : r = 1) : ∃ got : Int32, ¬ got = -1 ∧ z_fNu f t m lo hi a = .inr (got, a') ∧ h' = upd h to.toInt.toNat got := hp.elim (fun q => q.2.2) (fun q => by rw [e] at q; exact absurd q.1 (by decide))
theorem z_Ppk {r t m lo hi a a' F G to : Int32} {f h h' : Nat → Int32} {x : Int} (hp : z_Pp r f t m lo hi a a' F G h to h') (ht : z_in 5 x to) : z_k5 h h' := by
  rcases hp with ⟨-, -, got, -, -, e⟩ | ⟨-, e, -⟩
  · rw [e]
    exact z_k5u (i := to) ht
  · rw [e]
    exact z_k5r h
theorem z_PkmL {r got t m a n a' F G : Int32} {f : Nat → Int32} {nm : Nat → Int64} {o : Nat} (h : z_Pkm r got f t m a nm o n a' F G) (e : r = 0) : z_fPk f t m (z_mls nm o n) a = .inl (F, G) := h.elim (fun q => by rw [e] at q; exact absurd q.1 (by decide)) (fun q => q.2)
theorem z_PkmR {r got t m a n a' F G : Int32} {f : Nat → Int32} {nm : Nat → Int64} {o : Nat} (h : z_Pkm r got f t m a nm o n a' F G) (e : r = 1) : z_fPk f t m (z_mls nm o n) a = .inr (got, a') := h.elim (fun q => q.2.2.2) (fun q => by rw [e] at q; exact absurd q.1 (by decide))
theorem z_PwmL {r t m a to a' F G : Int32} {f h : Nat → Int32} {nm nm' : Nat → Int64} {w : Int64} (hw : z_Pwm r f t m a nm h to w nm' a' F G) (e : r = 0) : z_fNw f t m (z_mls nm 18 (h 0)) (z_mls nm 23 (h 1)) (z_mls nm 30 (h 3)) a = .inl (F, G) := hw.elim (fun q => by rw [e] at q; exact absurd q.1 (by decide)) (fun q => q.2)
theorem z_PwmR {r t m a to a' F G : Int32} {f h : Nat → Int32} {nm nm' : Nat → Int64} {w : Int64} (hw : z_Pwm r f t m a nm h to w nm' a' F G) (e : r = 1) : z_fNw f t m (z_mls nm 18 (h 0)) (z_mls nm 23 (h 1)) (z_mls nm 30 (h 3)) a = .inr (z_cv w, a') ∧ nm' = vp_updL nm to.toInt.toNat w ∧ z_nw w (z_cv w) := hw.elim (fun q => q.2.2) (fun q => by rw [e] at q; exact absurd q.1 (by decide))
theorem z_SAm {f : Nat → Int32} {t m k a v b k' a' v' b' : Int32} {w w' : Int64} (hn : z_ns t m a) (h : z_mt f t m k a v w b) (hx : z_TX f t m b a') (h' : z_mt f t m k' a' v' w' b') : z_SA f t m a a' := z_mtSA h hn hx h'
theorem z_qWT {r t m a : Int32} {f : Nat → Int32} {j c : Int64} (h : z_qW r f t m a j) (e : r = 1) (hn : z_nw j c) : z_TL f t m a c := h.elim (fun q => q.2 c hn) (fun q => by rw [e] at q; exact absurd q.1 (by decide))
theorem z_qWF {r t m a : Int32} {f : Nat → Int32} {j c : Int64} (h : z_qW r f t m a j) (e : r = 0) (hn : z_nw j c) : ¬ z_TL f t m a c := h.elim (fun q => by rw [e] at q; exact absurd q.1 (by decide)) (fun q => q.2 c hn)
theorem z_nsQ {r t m a : Int32} {f : Nat → Int32} {j c : Int64} (h : z_qW r f t m a j) (e : r = 1) (hn : z_nw j c) : z_ns t m a := (z_qWT h e hn).1
theorem z_vnP {r t m a to a' F G n0 : Int32} {f h : Nat → Int32} {nm nm' : Nat → Int64} {w : Int64} (hw : z_Pwm r f t m a nm h to w nm' a' F G) (e : r = 1) (hv : z_vh nm h) (ht : z_in 23 35 to) (en : n0 = h (0 : Int32).toNatClampNeg) (hn : z_in 0 5 n0) : z_vn nm' 18 n0 := by
  obtain ⟨-, e2, -⟩ := z_PwmR hw e
  have en : n0 = h 0 := en
  have t1 := ht.1
  have n1 := hn.1
  have n2 := hn.2
  rw [e2]
  refine z_vnU ?_ (Or.inr (by omega))
  rw [en]
  exact hv.1
section
variable {f h h1 h2 h' h9 : Nat → Int32} {nm nm1 nm9 : Nat → Int64} {t m a a1 a2 a3 a4 a5 a9 b b9 r r1 r2 r3 r4 got q F G F1 G1 F2 G2 F3 G3 kk n0 n1 y y' to to2 to3 : Int32} {w : Int64}
theorem z_upA {i : Nat} {x : Int32} (e : upd h i x = h') : h' i = x := by
  rw [← e]
  show (if i = i then x else h i) = x
  rw [if_pos rfl]
theorem z_upB {i j : Nat} {x : Int32} (e : upd h i x = h') (hj : ¬ j = i) : h' j = h j := by
  rw [← e]
  show (if j = i then x else h j) = h j
  rw [if_neg hj]
theorem z_ME4 (ek : kk = h (1 : Int32).toNatClampNeg) (hk : z_in 7 7 kk) (hf : z_fa F G 4 a) (hr : r = 0) : z_RM 1 f t m a nm h b r a9 nm9 h9 b9 F G := by
  have ek : kk = h 1 := ek
  have k1 := hk.1
  refine Or.inr ⟨hr, ?_⟩
  show z_fPe f t m (z_mls nm 18 (h 0), z_mls nm 23 (h 1), z_mls nm 30 (h 3), h 2, if b = 0 then 0 else h 4) a = _
  rw [z_fPeU, z_ifT (show 7 ≤ (z_mls nm 23 (h 1)).length by rw [z_mlsL, ← ek]; omega), hf.1, hf.2]
theorem z_ME0 (ek : kk = h (1 : Int32).toNatClampNeg) (hk : z_in 0 6 kk) (hw : z_Pwm r1 f t m a1 nm h to w nm1 a2 F G) (e1 : r1 = 0) (hs : z_SA f t m a a1) (hr : r = 0) : z_RM 1 f t m a nm h b r a9 nm9 h9 b9 F G := by
  have ek : kk = h 1 := ek
  have k2 := hk.2
  refine Or.inr ⟨hr, ?_⟩
  show z_fPe f t m (z_mls nm 18 (h 0), z_mls nm 23 (h 1), z_mls nm 30 (h 3), h 2, if b = 0 then 0 else h 4) a = _
  rw [z_fPeU, z_ifF (show ¬ 7 ≤ (z_mls nm 23 (h 1)).length by rw [z_mlsL, ← ek]; omega), z_nxtE hs]
  exact z_bdL (z_PwmL hw e1)
theorem z_mP18 (hw : z_Pwm r1 f t m a1 nm h to w nm1 a2 F1 G1) (e1 : r1 = 1) (ht : z_in 23 35 to) (en : n0 = h (0 : Int32).toNatClampNeg) (hn : z_in 0 5 n0) : z_mls nm1 18 n0 = z_mls nm 18 (h 0) := by
  obtain ⟨-, e2, -⟩ := z_PwmR hw e1
  have en : n0 = h 0 := en
  have t1 := ht.1
  have x1 := hn.1
  have x2 := hn.2
  rw [e2, z_mlsU (Or.inr (by omega)), en]
theorem z_ME1 (ek : kk = h (1 : Int32).toNatClampNeg) (hk : z_in 0 6 kk) (hw : z_Pwm r1 f t m a1 nm h to w nm1 a2 F1 G1) (e1 : r1 = 1) (hs : z_SA f t m a a1) (hp : z_Pkm r2 got f t m a2 nm1 18 n0 a3 F G) (e2 : r2 = 0) (ht : z_in 23 35 to) (en : n0 = h (0 : Int32).toNatClampNeg) (hn : z_in 0 5 n0) (hr : r = 0) : z_RM 1 f t m a nm h b r a9 nm9 h9 b9 F G := by
  have ek : kk = h 1 := ek
  have k2 := hk.2
  have p := z_PkmL hp e2
  rw [z_mP18 hw e1 ht en hn] at p
  refine Or.inr ⟨hr, ?_⟩
  show z_fPe f t m (z_mls nm 18 (h 0), z_mls nm 23 (h 1), z_mls nm 30 (h 3), h 2, if b = 0 then 0 else h 4) a = _
  rw [z_fPeU, z_ifF (show ¬ 7 ≤ (z_mls nm 23 (h 1)).length by rw [z_mlsL, ← ek]; omega), z_nxtE hs, z_bdR (z_PwmR hw e1).1]
  exact z_bdL p
theorem z_MEk (ek : kk = h (1 : Int32).toNatClampNeg) (hk : z_in 0 6 kk) (hw : z_Pwm r1 f t m a1 nm h to w nm1 a2 F1 G1) (e1 : r1 = 1) (tt : to.toInt = kk.toInt + 23) (en : n0 = h (0 : Int32).toNatClampNeg) (hn : z_in 0 5 n0) (en3 : n1 = h (3 : Int32).toNatClampNeg) (hn3 : z_in 0 6 n1) (k5 : z_k5 h h2) (ty : y'.toInt = kk.toInt + 1) (eh : upd h2 (1 : Int32).toNatClampNeg y' = h') : z_mtw nm1 h' b = (z_mls nm 18 (h 0), z_mls nm 23 (h 1) ++ [z_cv w], z_mls nm 30 (h 3), h 2, if b = 0 then 0 else h 4) := by
  have ek : kk = h 1 := ek
  have en : n0 = h 0 := en
  have en3 : n1 = h 3 := en3
  have eh : upd h2 1 y' = h' := eh
  obtain ⟨c0, c1, c2, c3, c4⟩ := k5
  rw [(z_PwmR hw e1).2.1]
  exact z_mQ (en ▸ hn) (ek ▸ hk) (en3 ▸ hn3) (by rw [← ek]; exact tt) (by rw [z_upA eh, ty, ek]) (by rw [z_upB eh (by decide), c0]) (by rw [z_upB eh (by decide), c2]) (by rw [z_upB eh (by decide), c3]) (by rw [z_upB eh (by decide), c4])
theorem z_ME2 (ek : kk = h (1 : Int32).toNatClampNeg) (hk : z_in 0 6 kk) (hw : z_Pwm r1 f t m a1 nm h to w nm1 a2 F1 G1) (e1 : r1 = 1) (hs : z_SA f t m a a1) (hp : z_Pkm r2 got f t m a2 nm1 18 n0 a3 F G) (e2 : r2 = 1) (ht : z_in 23 35 to) (tt : to.toInt = kk.toInt + 23) (en : n0 = h (0 : Int32).toNatClampNeg) (hn : z_in 0 5 n0) (hn3 : z_in 0 6 (h 3)) (hq : z_qW q f t m a3 448377742451) (eq : q = 0) (k5 : z_k5 h h2) (ty : y'.toInt = kk.toInt + 1) (eh : upd h2 (1 : Int32).toNatClampNeg y' = h') (hr : r = 1) : z_RM 1 f t m a nm h b r a3 nm1 h' b F G := by
  have p := z_PkmR hp e2
  rw [z_mP18 hw e1 ht en hn] at p
  have k2 := hk.2
  have ek' : kk = h 1 := ek
  refine Or.inl ⟨hr, z_PkmF hp e2, ?_⟩
  rw [z_MEk (n1 := h 3) ek hk hw e1 tt en hn rfl hn3 k5 ty eh]
  show z_fPe f t m (z_mls nm 18 (h 0), z_mls nm 23 (h 1), z_mls nm 30 (h 3), h 2, if b = 0 then 0 else h 4) a = _
  rw [z_fPeU, z_ifF (show ¬ 7 ≤ (z_mls nm 23 (h 1)).length by rw [z_mlsL, ← ek']; omega), z_nxtE hs, z_bdR (z_PwmR hw e1).1, z_bdR p, z_ifF (z_qWF hq eq z_wd3)]
theorem z_ME3 (ek : kk = h (1 : Int32).toNatClampNeg) (hk : z_in 0 6 kk) (hw : z_Pwm r1 f t m a1 nm h to w nm1 a2 F1 G1) (e1 : r1 = 1) (hs : z_SA f t m a a1) (hp : z_Pkm r2 got f t m a2 nm1 18 n0 a3 F G) (e2 : r2 = 1) (ht : z_in 23 35 to) (tt : to.toInt = kk.toInt + 23) (en : n0 = h (0 : Int32).toNatClampNeg) (hn : z_in 0 5 n0) (hn3 : z_in 0 6 (h 3)) (hq : z_qW q f t m a3 448377742451) (eq : q = 1) (hs2 : z_SA f t m a3 a4) (k5 : z_k5 h h2) (ty : y'.toInt = kk.toInt + 1) (eh : upd h2 (1 : Int32).toNatClampNeg y' = h') (hr : r = 1) : z_RM 1 f t m a nm h b r a4 nm1 h' b F G := by
  have p := z_PkmR hp e2
  rw [z_mP18 hw e1 ht en hn] at p
  have k2 := hk.2
  have ek' : kk = h 1 := ek
  refine Or.inl ⟨hr, z_PkmF hp e2, ?_⟩
  rw [z_MEk (n1 := h 3) ek hk hw e1 tt en hn rfl hn3 k5 ty eh]
  show z_fPe f t m (z_mls nm 18 (h 0), z_mls nm 23 (h 1), z_mls nm 30 (h 3), h 2, if b = 0 then 0 else h 4) a = _
  rw [z_fPeU, z_ifF (show ¬ 7 ≤ (z_mls nm 23 (h 1)).length by rw [z_mlsL, ← ek']; omega), z_nxtE hs, z_bdR (z_PwmR hw e1).1, z_bdR p, z_ifT (z_qWT hq eq z_wd3), z_nxtE hs2]
end
section
variable {f h h1 h2 h3 h' h9 : Nat → Int32} {nm nm1 nm9 : Nat → Int64} {t m a a' a1 a2 a3 a4 a5 a9 b b9 r r1 r2 r3 r4 got q F G F1 G1 F2 G2 F3 G3 kk n0 n1 y y' to to2 to3 : Int32} {w : Int64}
theorem z_k5hu {a9 : Int} {i x : Int32} (e : upd h1 i.toNatClampNeg x = h2) (hi : z_in 5 a9 i) (k : z_k5 h h1) : z_k5 h h2 := by
  rw [← e]
  exact z_k5t k (z_k5u hi)
theorem z_k5p {lo hi : Int32} (hp : z_Pp r f t m lo hi a a' F G h1 to h2) (ht : z_in 5 66 to) (k : z_k5 h h1) : z_k5 h h2 := z_k5t k (z_Ppk hp ht)
theorem z_k5L (k : z_k5 h h2) : z_mtw nm h2 b = z_mtw nm h b := by
  obtain ⟨c0, c1, c2, c3, c4⟩ := k
  unfold z_mtw
  rw [c0, c1, c2, c3, c4]
theorem z_MS4 (ek : kk = h (2 : Int32).toNatClampNeg) (hk : z_in 14 14 kk) (hf : z_fa F G 4 a) (hr : r = 0) : z_RM 2 f t m a nm h b r a9 nm9 h9 b9 F G := by
  have ek : kk = h 2 := ek
  have k1 := hk.1
  refine Or.inr ⟨hr, ?_⟩
  show z_fSo f t m (z_mls nm 18 (h 0), z_mls nm 23 (h 1), z_mls nm 30 (h 3), h 2, if b = 0 then 0 else h 4) a = _
  rw [z_fSoU, z_ifT (show 14 ≤ (h 2).toInt by rw [← ek]; omega), hf.1, hf.2]
theorem z_MS1 (ek : kk = h (2 : Int32).toNatClampNeg) (hk : z_in 0 13 kk) (hp : z_Pkm r1 got f t m a1 nm 23 n1 a2 F G) (e1 : r1 = 0) (en : n1 = h (1 : Int32).toNatClampNeg) (hs : z_SA f t m a a1) (hr : r = 0) : z_RM 2 f t m a nm h b r a9 nm9 h9 b9 F G := by
  have ek : kk = h 2 := ek
  have en : n1 = h 1 := en
  have k2 := hk.2
  have p := z_PkmL hp e1
  rw [en] at p
  refine Or.inr ⟨hr, ?_⟩
  show z_fSo f t m (z_mls nm 18 (h 0), z_mls nm 23 (h 1), z_mls nm 30 (h 3), h 2, if b = 0 then 0 else h 4) a = _
  rw [z_fSoU, z_ifF (show ¬ 14 ≤ (h 2).toInt by rw [← ek]; omega), z_nxtE hs]
  exact z_bdL p
theorem z_MS2 (ek : kk = h (2 : Int32).toNatClampNeg) (hk : z_in 0 13 kk) (hp : z_Pkm r1 got f t m a1 nm 23 n1 a2 F1 G1) (e1 : r1 = 1) (en : n1 = h (1 : Int32).toNatClampNeg) (hs : z_SA f t m a a1) (hd : z_Pp r2 f t m 1 199 a2 a3 F G h1 to h2) (e2 : r2 = 0) (hr : r = 0) : z_RM 2 f t m a nm h b r a9 nm9 h9 b9 F G := by
  have ek : kk = h 2 := ek
  have en : n1 = h 1 := en
  have k2 := hk.2
  have p := z_PkmR hp e1
  rw [en] at p
  refine Or.inr ⟨hr, ?_⟩
  show z_fSo f t m (z_mls nm 18 (h 0), z_mls nm 23 (h 1), z_mls nm 30 (h 3), h 2, if b = 0 then 0 else h 4) a = _
  rw [z_fSoU, z_ifF (show ¬ 14 ≤ (h 2).toInt by rw [← ek]; omega), z_nxtE hs, z_bdR p]
  exact z_bdL (z_PpL hd e2)
theorem z_MS3 (ek : kk = h (2 : Int32).toNatClampNeg) (hk : z_in 0 13 kk) (hp : z_Pkm r1 got f t m a1 nm 23 n1 a2 F1 G1) (e1 : r1 = 1) (en : n1 = h (1 : Int32).toNatClampNeg) (hs : z_SA f t m a a1) (hd : z_Pp r2 f t m 1 199 a2 a3 F2 G2 h1 to h2) (e2 : r2 = 1) (hd3 : z_Pp r3 f t m 1 20 a3 a4 F G h2 to2 h3) (e3 : r3 = 0) (hr : r = 0) : z_RM 2 f t m a nm h b r a9 nm9 h9 b9 F G := by
  have ek : kk = h 2 := ek
  have en : n1 = h 1 := en
  have k2 := hk.2
  have p := z_PkmR hp e1
  rw [en] at p
  obtain ⟨d, -, q2, -⟩ := z_PpR hd e2
  refine Or.inr ⟨hr, ?_⟩
  show z_fSo f t m (z_mls nm 18 (h 0), z_mls nm 23 (h 1), z_mls nm 30 (h 3), h 2, if b = 0 then 0 else h 4) a = _
  rw [z_fSoU, z_ifF (show ¬ 14 ≤ (h 2).toInt by rw [← ek]; omega), z_nxtE hs, z_bdR p, z_bdR q2]
  exact z_bdL (z_PpL hd3 e3)
theorem z_MS5 (ek : kk = h (2 : Int32).toNatClampNeg) (hk : z_in 0 13 kk) (hp : z_Pkm r1 got f t m a1 nm 23 n1 a2 F1 G1) (e1 : r1 = 1) (en : n1 = h (1 : Int32).toNatClampNeg) (hs : z_SA f t m a a1) (hd : z_Pp r2 f t m 1 199 a2 a3 F2 G2 h1 to h2) (e2 : r2 = 1) (hd3 : z_Pp r3 f t m 1 20 a3 a4 F G h2 to2 h3) (e3 : r3 = 1) (k5 : z_k5 h h3) (ty : y' = kk + 1) (eh : upd h3 (2 : Int32).toNatClampNeg y' = h') (hr : r = 1) : z_RM 2 f t m a nm h b r a4 nm h' b F G := by
  have ek : kk = h 2 := ek
  have en : n1 = h 1 := en
  have eh : upd h3 2 y' = h' := eh
  have k2 := hk.2
  have p := z_PkmR hp e1
  rw [en] at p
  obtain ⟨d, -, q2, -⟩ := z_PpR hd e2
  obtain ⟨d3, -, q3, -⟩ := z_PpR hd3 e3
  obtain ⟨c0, c1, c2, c3, c4⟩ := k5
  have em : z_mtw nm h' b = (z_mls nm 18 (h 0), z_mls nm 23 (h 1), z_mls nm 30 (h 3), h 2 + 1, if b = 0 then 0 else h 4) := by
    unfold z_mtw
    rw [z_upA eh, z_upB eh (show ¬ 0 = 2 by decide), z_upB eh (show ¬ 1 = 2 by decide), z_upB eh (show ¬ 3 = 2 by decide), z_upB eh (show ¬ 4 = 2 by decide), c0, c1, c3, c4, ty, ek]
  refine Or.inl ⟨hr, z_PpF hd3 e3, ?_⟩
  rw [em]
  show z_fSo f t m (z_mls nm 18 (h 0), z_mls nm 23 (h 1), z_mls nm 30 (h 3), h 2, if b = 0 then 0 else h 4) a = _
  rw [z_fSoU, z_ifF (show ¬ 14 ≤ (h 2).toInt by rw [← ek]; omega), z_nxtE hs, z_bdR p, z_bdR q2, z_bdR q3]
theorem z_MU4 (ek : kk = h (3 : Int32).toNatClampNeg) (hk : z_in 6 6 kk) (hf : z_fa F G 4 a) (hr : r = 0) : z_RM 3 f t m a nm h b r a9 nm9 h9 b9 F G := by
  have ek : kk = h 3 := ek
  have k1 := hk.1
  refine Or.inr ⟨hr, ?_⟩
  show z_fUm f t m (z_mls nm 18 (h 0), z_mls nm 23 (h 1), z_mls nm 30 (h 3), h 2, if b = 0 then 0 else h 4) a = _
  rw [z_fUmU, z_ifT (show 6 ≤ (z_mls nm 30 (h 3)).length by rw [z_mlsL, ← ek]; omega), hf.1, hf.2]
theorem z_MU0 (ek : kk = h (3 : Int32).toNatClampNeg) (hk : z_in 0 5 kk) (hw : z_Pwm r1 f t m a1 nm h to w nm1 a2 F G) (e1 : r1 = 0) (hs : z_SA f t m a a1) (hr : r = 0) : z_RM 3 f t m a nm h b r a9 nm9 h9 b9 F G := by
  have ek : kk = h 3 := ek
  have k2 := hk.2
  refine Or.inr ⟨hr, ?_⟩
  show z_fUm f t m (z_mls nm 18 (h 0), z_mls nm 23 (h 1), z_mls nm 30 (h 3), h 2, if b = 0 then 0 else h 4) a = _
  rw [z_fUmU, z_ifF (show ¬ 6 ≤ (z_mls nm 30 (h 3)).length by rw [z_mlsL, ← ek]; omega), z_nxtE hs]
  exact z_bdL (z_PwmL hw e1)
theorem z_MU1 (ek : kk = h (3 : Int32).toNatClampNeg) (hk : z_in 0 5 kk) (hw : z_Pwm r1 f t m a1 nm h to w nm1 a2 F1 G1) (e1 : r1 = 1) (hs : z_SA f t m a a1) (hp : z_Pkm r2 got f t m a2 nm1 18 n0 a3 F G) (e2 : r2 = 0) (ht : z_in 23 35 to) (en : n0 = h (0 : Int32).toNatClampNeg) (hn : z_in 0 5 n0) (hr : r = 0) : z_RM 3 f t m a nm h b r a9 nm9 h9 b9 F G := by
  have ek : kk = h 3 := ek
  have k2 := hk.2
  have p := z_PkmL hp e2
  rw [z_mP18 hw e1 ht en hn] at p
  refine Or.inr ⟨hr, ?_⟩
  show z_fUm f t m (z_mls nm 18 (h 0), z_mls nm 23 (h 1), z_mls nm 30 (h 3), h 2, if b = 0 then 0 else h 4) a = _
  rw [z_fUmU, z_ifF (show ¬ 6 ≤ (z_mls nm 30 (h 3)).length by rw [z_mlsL, ← ek]; omega), z_nxtE hs, z_bdR (z_PwmR hw e1).1]
  exact z_bdL p
theorem z_MU2 (ek : kk = h (3 : Int32).toNatClampNeg) (hk : z_in 0 5 kk) (hw : z_Pwm r1 f t m a1 nm h to w nm1 a2 F1 G1) (e1 : r1 = 1) (hs : z_SA f t m a a1) (hp : z_Pkm r2 got f t m a2 nm1 18 n0 a3 F2 G2) (e2 : r2 = 1) (ht : z_in 23 35 to) (en : n0 = h (0 : Int32).toNatClampNeg) (hn : z_in 0 5 n0) (hd : z_Pp r3 f t m 0 12 a3 a4 F G h1 to2 h2) (e3 : r3 = 0) (hr : r = 0) : z_RM 3 f t m a nm h b r a9 nm9 h9 b9 F G := by
  have ek : kk = h 3 := ek
  have k2 := hk.2
  have p := z_PkmR hp e2
  rw [z_mP18 hw e1 ht en hn] at p
  refine Or.inr ⟨hr, ?_⟩
  show z_fUm f t m (z_mls nm 18 (h 0), z_mls nm 23 (h 1), z_mls nm 30 (h 3), h 2, if b = 0 then 0 else h 4) a = _
  rw [z_fUmU, z_ifF (show ¬ 6 ≤ (z_mls nm 30 (h 3)).length by rw [z_mlsL, ← ek]; omega), z_nxtE hs, z_bdR (z_PwmR hw e1).1, z_bdR p]
  exact z_bdL (z_PpL hd e3)
theorem z_MU3 (ek : kk = h (3 : Int32).toNatClampNeg) (hk : z_in 0 5 kk) (hw : z_Pwm r1 f t m a1 nm h to w nm1 a2 F1 G1) (e1 : r1 = 1) (hs : z_SA f t m a a1) (hp : z_Pkm r2 got f t m a2 nm1 18 n0 a3 F2 G2) (e2 : r2 = 1) (ht : z_in 23 35 to) (tt : to.toInt = kk.toInt + 30) (en : n0 = h (0 : Int32).toNatClampNeg) (hn : z_in 0 5 n0) (hn1 : z_in 0 7 (h 1)) (hd : z_Pp r3 f t m 0 12 a3 a4 F G h1 to2 h2) (e3 : r3 = 1) (k5 : z_k5 h h2) (ty : y'.toInt = kk.toInt + 1) (eh : upd h2 (3 : Int32).toNatClampNeg y' = h') (hr : r = 1) : z_RM 3 f t m a nm h b r a4 nm1 h' b F G := by
  have ek : kk = h 3 := ek
  have en' : n0 = h 0 := en
  have eh : upd h2 3 y' = h' := eh
  have k2 := hk.2
  have p := z_PkmR hp e2
  rw [z_mP18 hw e1 ht en hn] at p
  obtain ⟨d, -, q2, -⟩ := z_PpR hd e3
  obtain ⟨c0, c1, c2, c3, c4⟩ := k5
  have em : z_mtw nm1 h' b = (z_mls nm 18 (h 0), z_mls nm 23 (h 1), z_mls nm 30 (h 3) ++ [z_cv w], h 2, if b = 0 then 0 else h 4) := by
    rw [(z_PwmR hw e1).2.1]
    exact z_mU (en' ▸ hn) hn1 (ek ▸ hk) (by rw [← ek]; exact tt) (by rw [z_upA eh, ty, ek]) (by rw [z_upB eh (by decide), c0]) (by rw [z_upB eh (by decide), c2]) (by rw [z_upB eh (by decide), c1]) (by rw [z_upB eh (by decide), c4])
  refine Or.inl ⟨hr, z_PpF hd e3, ?_⟩
  rw [em]
  show z_fUm f t m (z_mls nm 18 (h 0), z_mls nm 23 (h 1), z_mls nm 30 (h 3), h 2, if b = 0 then 0 else h 4) a = _
  rw [z_fUmU, z_ifF (show ¬ 6 ≤ (z_mls nm 30 (h 3)).length by rw [z_mlsL, ← ek]; omega), z_nxtE hs, z_bdR (z_PwmR hw e1).1, z_bdR p, z_bdR q2]
theorem z_fLi1 {S : z_TW} (h1 : z_TL f t m a (z_cds.getD 1 0)) : z_fLi f t m S a = z_fPl f t m S a := by
  unfold z_fLi
  rw [z_ifT h1]
theorem z_MP4 (hq : z_qW q f t m a 482854658917) (eq : q = 1) (ek : kk = h (0 : Int32).toNatClampNeg) (hk : z_in 5 5 kk) (hf : z_fa F G 4 a) (hr : r = 0) : z_RM 5 f t m a nm h b r a9 nm9 h9 b9 F G := by
  have ek : kk = h 0 := ek
  have k1 := hk.1
  refine Or.inr ⟨hr, ?_⟩
  show z_fLi f t m (z_mls nm 18 (h 0), z_mls nm 23 (h 1), z_mls nm 30 (h 3), h 2, if b = 0 then 0 else h 4) a = _
  rw [z_fLi1 (z_qWT hq eq z_wd1), z_fPlU, z_ifT (show 5 ≤ (z_mls nm 18 (h 0)).length by rw [z_mlsL, ← ek]; omega), hf.1, hf.2]
theorem z_MP0 (hq : z_qW q f t m a 482854658917) (eq : q = 1) (ek : kk = h (0 : Int32).toNatClampNeg) (hk : z_in 0 4 kk) (hw : z_Pwm r1 f t m a1 nm h to w nm1 a2 F G) (e1 : r1 = 0) (hs : z_SA f t m a a1) (hr : r = 0) : z_RM 5 f t m a nm h b r a9 nm9 h9 b9 F G := by
  have ek : kk = h 0 := ek
  have k2 := hk.2
  refine Or.inr ⟨hr, ?_⟩
  show z_fLi f t m (z_mls nm 18 (h 0), z_mls nm 23 (h 1), z_mls nm 30 (h 3), h 2, if b = 0 then 0 else h 4) a = _
  rw [z_fLi1 (z_qWT hq eq z_wd1), z_fPlU, z_ifF (show ¬ 5 ≤ (z_mls nm 18 (h 0)).length by rw [z_mlsL, ← ek]; omega), z_nxtE hs]
  exact z_bdL (z_PwmL hw e1)
theorem z_MP1 (hq : z_qW q f t m a 482854658917) (eq : q = 1) (ek : kk = h (0 : Int32).toNatClampNeg) (hk : z_in 0 4 kk) (hw : z_Pwm r1 f t m a1 nm h to w nm1 a2 F G) (e1 : r1 = 1) (hs : z_SA f t m a a1) (tt : to.toInt = kk.toInt + 18) (hn1 : z_in 0 7 (h 1)) (hn3 : z_in 0 6 (h 3)) (ty : y'.toInt = kk.toInt + 1) (eh : upd h (0 : Int32).toNatClampNeg y' = h') (hr : r = 1) : z_RM 5 f t m a nm h b r a2 nm1 h' b F G := by
  have ek : kk = h 0 := ek
  have eh : upd h 0 y' = h' := eh
  have k2 := hk.2
  have em : z_mtw nm1 h' b = (z_mls nm 18 (h 0) ++ [z_cv w], z_mls nm 23 (h 1), z_mls nm 30 (h 3), h 2, if b = 0 then 0 else h 4) := by
    rw [(z_PwmR hw e1).2.1]
    exact z_mP (ek ▸ hk) hn1 hn3 (by rw [← ek]; exact tt) (by rw [z_upA eh, ty, ek]) (z_upB eh (by decide)) (z_upB eh (by decide)) (z_upB eh (by decide)) (z_upB eh (by decide))
  refine Or.inl ⟨hr, z_PwmF hw e1, ?_⟩
  rw [em]
  show z_fLi f t m (z_mls nm 18 (h 0), z_mls nm 23 (h 1), z_mls nm 30 (h 3), h 2, if b = 0 then 0 else h 4) a = _
  rw [z_fLi1 (z_qWT hq eq z_wd1), z_fPlU, z_ifF (show ¬ 5 ≤ (z_mls nm 18 (h 0)).length by rw [z_mlsL, ← ek]; omega), z_nxtE hs, z_bdR (z_PwmR hw e1).1]
theorem z_RMt {i : Nat} (e : z_fLi f t m (z_mtw nm h b) a = z_gK i f t m (z_mtw nm h b) a) (hx : z_RM i f t m a nm h b r a9 nm9 h9 b9 F G) : z_RM 5 f t m a nm h b r a9 nm9 h9 b9 F G := by
  rcases hx with ⟨x, y, z⟩ | ⟨x, y⟩
  · exact Or.inl ⟨x, y, e.trans z⟩
  · exact Or.inr ⟨x, e.trans y⟩
variable {q1 q2 q4 q5 q6 : Int32}
theorem z_ML2 (w1 : z_qW q1 f t m a 482854658917) (x1 : q1 = 0) (w2 : z_qW q2 f t m a 123581014175598) (x2 : q2 = 1) (hx : z_RM 1 f t m a nm h b r a9 nm9 h9 b9 F G) : z_RM 5 f t m a nm h b r a9 nm9 h9 b9 F G := by
  refine z_RMt (i := 1) ?_ hx
  unfold z_fLi
  rw [z_ifF (z_qWF w1 x1 z_wd1), z_ifT (z_qWT w2 x2 z_wd2)]
  rfl
theorem z_ML4 (w1 : z_qW q1 f t m a 482854658917) (x1 : q1 = 0) (w2 : z_qW q2 f t m a 123581014175598) (x2 : q2 = 0) (w4 : z_qW q4 f t m a 126922498666359) (x4 : q4 = 1) (hx : z_RM 2 f t m a nm h b r a9 nm9 h9 b9 F G) : z_RM 5 f t m a nm h b r a9 nm9 h9 b9 F G := by
  refine z_RMt (i := 2) ?_ hx
  unfold z_fLi
  rw [z_ifF (z_qWF w1 x1 z_wd1), z_ifF (z_qWF w2 x2 z_wd2), z_ifT (z_qWT w4 x4 z_wd4)]
  rfl
theorem z_ML5 (w1 : z_qW q1 f t m a 482854658917) (x1 : q1 = 0) (w2 : z_qW q2 f t m a 123581014175598) (x2 : q2 = 0) (w4 : z_qW q4 f t m a 126922498666359) (x4 : q4 = 0) (w5 : z_qW q5 f t m a 108243635170425) (x5 : q5 = 1) (hx : z_RM 3 f t m a nm h b r a9 nm9 h9 b9 F G) : z_RM 5 f t m a nm h b r a9 nm9 h9 b9 F G := by
  refine z_RMt (i := 3) ?_ hx
  unfold z_fLi
  rw [z_ifF (z_qWF w1 x1 z_wd1), z_ifF (z_qWF w2 x2 z_wd2), z_ifF (z_qWF w4 x4 z_wd4), z_ifT (z_qWT w5 x5 z_wd5)]
  rfl
theorem z_MLF (w1 : z_qW q1 f t m a 482854658917) (x1 : q1 = 0) (w2 : z_qW q2 f t m a 123581014175598) (x2 : q2 = 0) (w4 : z_qW q4 f t m a 126922498666359) (x4 : q4 = 0) (w5 : z_qW q5 f t m a 108243635170425) (x5 : q5 = 0) (w6 : z_qW q6 f t m a 6709618) (x6 : q6 = 1) (S : z_TW) : z_fLi f t m S a = z_fFa f t m S a := by
  unfold z_fLi
  rw [z_ifF (z_qWF w1 x1 z_wd1), z_ifF (z_qWF w2 x2 z_wd2), z_ifF (z_qWF w4 x4 z_wd4), z_ifF (z_qWF w5 x5 z_wd5), z_ifT (z_qWT w6 x6 z_wd6)]
theorem z_ML0 (w1 : z_qW q1 f t m a 482854658917) (x1 : q1 = 0) (w2 : z_qW q2 f t m a 123581014175598) (x2 : q2 = 0) (w4 : z_qW q4 f t m a 126922498666359) (x4 : q4 = 0) (w5 : z_qW q5 f t m a 108243635170425) (x5 : q5 = 0) (w6 : z_qW q6 f t m a 6709618) (x6 : q6 = 0) (hf : z_fa F G 1 a) (hr : r = 0) : z_RM 5 f t m a nm h b r a9 nm9 h9 b9 F G := by
  refine Or.inr ⟨hr, ?_⟩
  show z_fLi f t m (z_mtw nm h b) a = _
  unfold z_fLi
  rw [z_ifF (z_qWF w1 x1 z_wd1), z_ifF (z_qWF w2 x2 z_wd2), z_ifF (z_qWF w4 x4 z_wd4), z_ifF (z_qWF w5 x5 z_wd5), z_ifF (z_qWF w6 x6 z_wd6), hf.1, hf.2]
def z_far4 (h : Nat → Int32) : Prop := ¬ h 4 = 0
theorem z_MF3 (w1 : z_qW q1 f t m a 482854658917) (x1 : q1 = 0) (w2 : z_qW q2 f t m a 123581014175598) (x2 : q2 = 0) (w4 : z_qW q4 f t m a 126922498666359) (x4 : q4 = 0) (w5 : z_qW q5 f t m a 108243635170425) (x5 : q5 = 0) (w6 : z_qW q6 f t m a 6709618) (x6 : q6 = 1) (hb : ¬ b = 0) (h4 : z_far4 h) (hf : z_fa F G 3 a) (hr : r = 0) : z_RM 5 f t m a nm h b r a9 nm9 h9 b9 F G := by
  refine Or.inr ⟨hr, ?_⟩
  show z_fLi f t m (z_mls nm 18 (h 0), z_mls nm 23 (h 1), z_mls nm 30 (h 3), h 2, if b = 0 then 0 else h 4) a = _
  rw [z_MLF w1 x1 w2 x2 w4 x4 w5 x5 w6 x6, z_fFaU, if_neg hb, z_ifT (show ¬ h 4 = 0 from h4), hf.1, hf.2]
theorem z_MF0 (w1 : z_qW q1 f t m a 482854658917) (x1 : q1 = 0) (w2 : z_qW q2 f t m a 123581014175598) (x2 : q2 = 0) (w4 : z_qW q4 f t m a 126922498666359) (x4 : q4 = 0) (w5 : z_qW q5 f t m a 108243635170425) (x5 : q5 = 0) (w6 : z_qW q6 f t m a 6709618) (x6 : q6 = 1) (hb : b = 0) (hd : z_Pp r f t m 1 5 a1 a2 F G h 4 h') (hs : z_SA f t m a a1) (hr : r = 0) : z_RM 5 f t m a nm h b r a9 nm9 h9 b9 F G := by
  refine Or.inr ⟨hr, ?_⟩
  show z_fLi f t m (z_mls nm 18 (h 0), z_mls nm 23 (h 1), z_mls nm 30 (h 3), h 2, if b = 0 then 0 else h 4) a = _
  rw [z_MLF w1 x1 w2 x2 w4 x4 w5 x5 w6 x6, z_fFaU, if_pos hb, z_ifF (show ¬ ¬ (0 : Int32) = 0 from fun q => q rfl), z_nxtE hs]
  exact z_bdL (z_PpL hd hr)
theorem z_MF1 (w1 : z_qW q1 f t m a 482854658917) (x1 : q1 = 0) (w2 : z_qW q2 f t m a 123581014175598) (x2 : q2 = 0) (w4 : z_qW q4 f t m a 126922498666359) (x4 : q4 = 0) (w5 : z_qW q5 f t m a 108243635170425) (x5 : q5 = 0) (w6 : z_qW q6 f t m a 6709618) (x6 : q6 = 1) (hb : b = 0) (hd : z_Pp r f t m 1 5 a1 a2 F G h 4 h') (hs : z_SA f t m a a1) (hr : r = 1) : z_RM 5 f t m a nm h b r a2 nm h' 1 F G := by
  obtain ⟨d, -, q2, eh⟩ := z_PpR hd hr
  have eh : upd h 4 d = h' := eh.symm
  have em : z_mtw nm h' 1 = (z_mls nm 18 (h 0), z_mls nm 23 (h 1), z_mls nm 30 (h 3), h 2, d) := by
    unfold z_mtw
    rw [z_upA eh, z_upB eh (show ¬ 0 = 4 by decide), z_upB eh (show ¬ 1 = 4 by decide), z_upB eh (show ¬ 2 = 4 by decide), z_upB eh (show ¬ 3 = 4 by decide), if_neg (by decide)]
  refine Or.inl ⟨hr, z_PpF hd hr, ?_⟩
  rw [em]
  show z_fLi f t m (z_mls nm 18 (h 0), z_mls nm 23 (h 1), z_mls nm 30 (h 3), h 2, if b = 0 then 0 else h 4) a = _
  rw [z_MLF w1 x1 w2 x2 w4 x4 w5 x5 w6 x6, z_fFaU, if_pos hb, z_ifF (show ¬ ¬ (0 : Int32) = 0 from fun q => q rfl), z_nxtE hs, z_bdR q2]
end
section
variable {f h h1 h2 h3 h' : Nat → Int32} {nm nm1 : Nat → Int64} {t m a a1 a2 a3 a4 b r r1 r2 r3 got q F G F1 G1 F2 G2 kk n0 n1 y' to to2 : Int32} {w : Int64}
theorem z_ME2h (eh : upd h2 (1 : Int32).toNatClampNeg y' = h') (ty : y'.toInt = kk.toInt + 1) (ek : kk = h (1 : Int32).toNatClampNeg) (hk : z_in 0 6 kk) (hw : z_Pwm r1 f t m a1 nm h to w nm1 a2 F1 G1) (e1 : r1 = 1) (hs : z_SA f t m a a1) (hp : z_Pkm r2 got f t m a2 nm1 18 n0 a3 F G) (e2 : r2 = 1) (ht : z_in 23 35 to) (tt : to.toInt = kk.toInt + 23) (en : n0 = h (0 : Int32).toNatClampNeg) (hn : z_in 0 5 n0) (hn3 : z_in 0 6 (h 3)) (hq : z_qW q f t m a3 448377742451) (eq : q = 0) (k5 : z_k5 h h2) (hr : r = 1) : z_RM 1 f t m a nm h b r a3 nm1 h' b F G := z_ME2 ek hk hw e1 hs hp e2 ht tt en hn hn3 hq eq k5 ty eh hr
theorem z_ME3h (eh : upd h2 (1 : Int32).toNatClampNeg y' = h') (ty : y'.toInt = kk.toInt + 1) (ek : kk = h (1 : Int32).toNatClampNeg) (hk : z_in 0 6 kk) (hw : z_Pwm r1 f t m a1 nm h to w nm1 a2 F1 G1) (e1 : r1 = 1) (hs : z_SA f t m a a1) (hp : z_Pkm r2 got f t m a2 nm1 18 n0 a3 F G) (e2 : r2 = 1) (ht : z_in 23 35 to) (tt : to.toInt = kk.toInt + 23) (en : n0 = h (0 : Int32).toNatClampNeg) (hn : z_in 0 5 n0) (hn3 : z_in 0 6 (h 3)) (hq : z_qW q f t m a3 448377742451) (eq : q = 1) (hs2 : z_SA f t m a3 a4) (k5 : z_k5 h h2) (hr : r = 1) : z_RM 1 f t m a nm h b r a4 nm1 h' b F G := z_ME3 ek hk hw e1 hs hp e2 ht tt en hn hn3 hq eq hs2 k5 ty eh hr
theorem z_MS5h (eh : upd h3 (2 : Int32).toNatClampNeg y' = h') (ty : y' = kk + 1) (ek : kk = h (2 : Int32).toNatClampNeg) (hk : z_in 0 13 kk) (hp : z_Pkm r1 got f t m a1 nm 23 n1 a2 F1 G1) (e1 : r1 = 1) (en : n1 = h (1 : Int32).toNatClampNeg) (hs : z_SA f t m a a1) (hd : z_Pp r2 f t m 1 199 a2 a3 F2 G2 h1 to h2) (e2 : r2 = 1) (hd3 : z_Pp r3 f t m 1 20 a3 a4 F G h2 to2 h3) (e3 : r3 = 1) (k5 : z_k5 h h3) (hr : r = 1) : z_RM 2 f t m a nm h b r a4 nm h' b F G := z_MS5 ek hk hp e1 en hs hd e2 hd3 e3 k5 ty eh hr
theorem z_MU3h (eh : upd h2 (3 : Int32).toNatClampNeg y' = h') (ty : y'.toInt = kk.toInt + 1) (ek : kk = h (3 : Int32).toNatClampNeg) (hk : z_in 0 5 kk) (hw : z_Pwm r1 f t m a1 nm h to w nm1 a2 F1 G1) (e1 : r1 = 1) (hs : z_SA f t m a a1) (hp : z_Pkm r2 got f t m a2 nm1 18 n0 a3 F2 G2) (e2 : r2 = 1) (ht : z_in 23 35 to) (tt : to.toInt = kk.toInt + 30) (en : n0 = h (0 : Int32).toNatClampNeg) (hn : z_in 0 5 n0) (hn1 : z_in 0 7 (h 1)) (hd : z_Pp r3 f t m 0 12 a3 a4 F G h1 to2 h2) (e3 : r3 = 1) (k5 : z_k5 h h2) (hr : r = 1) : z_RM 3 f t m a nm h b r a4 nm1 h' b F G := z_MU3 ek hk hw e1 hs hp e2 ht tt en hn hn1 hd e3 k5 ty eh hr
end
theorem z_MF9 {f h h' : Nat → Int32} {nm : Nat → Int64} {t m a a1 a2 b r q1 q2 q4 q5 q6 F G : Int32} (w1 : z_qW q1 f t m a 482854658917) (x1 : q1 = 0) (w2 : z_qW q2 f t m a 123581014175598) (x2 : q2 = 0) (w4 : z_qW q4 f t m a 126922498666359) (x4 : q4 = 0) (w5 : z_qW q5 f t m a 108243635170425) (x5 : q5 = 0) (w6 : z_qW q6 f t m a 6709618) (x6 : q6 = 1) (hb : b = 0) (hd : z_Pp r f t m 1 5 a1 a2 F G h 4 h') (hs : z_SA f t m a a1) : z_RM 5 f t m a nm h b r a2 nm h' 1 F G := by
  rcases hd with q | q
  · exact z_MF1 w1 x1 w2 x2 w4 x4 w5 x5 w6 x6 hb (Or.inl q) hs q.1
  · exact z_MF0 (a2 := a2) w1 x1 w2 x2 w4 x4 w5 x5 w6 x6 hb (Or.inr q) hs q.1
section
variable {f h h1 h2 h3 h' : Nat → Int32} {nm nm1 : Nat → Int64} {t m a a1 a2 b r r1 F G F1 G1 kk n0 y' to : Int32} {w : Int64}
theorem z_vhQ (hv : z_vh nm h) (eh : upd h2 (1 : Int32).toNatClampNeg y' = h') (ty : y'.toInt = kk.toInt + 1) (ek : kk = h (1 : Int32).toNatClampNeg) (hk : z_in 0 6 kk) (hw : z_Pwm r1 f t m a1 nm h to w nm1 a2 F1 G1) (e1 : r1 = 1) (tt : to.toInt = kk.toInt + 23) (en : n0 = h (0 : Int32).toNatClampNeg) (hn : z_in 0 5 n0) (k5 : z_k5 h h2) : z_vh nm1 h' := by
  have ek : kk = h 1 := ek
  have en : n0 = h 0 := en
  have eh : upd h2 1 y' = h' := eh
  obtain ⟨c0, c1, c2, c3, c4⟩ := k5
  obtain ⟨-, e2, hc⟩ := z_PwmR hw e1
  obtain ⟨v0, v1, v3⟩ := hv
  have x0 := hn.1
  have y0 := hn.2
  have x1 := hk.1
  have y1 := hk.2
  rw [e2]
  refine ⟨?_, ?_, ?_⟩
  · rw [z_upB eh (by decide), c0]
    exact z_vnU v0 (Or.inr (by rw [← en]; omega))
  · rw [z_upA eh]
    exact z_vnA (n := h 1) v1 hc (by rw [← ek]; omega) (by rw [ty, ek]) (by rw [← ek]; omega)
  · rw [z_upB eh (by decide), c3]
    exact z_vnU v3 (Or.inl (by omega))
theorem z_vhU (hv : z_vh nm h) (eh : upd h2 (3 : Int32).toNatClampNeg y' = h') (ty : y'.toInt = kk.toInt + 1) (ek : kk = h (3 : Int32).toNatClampNeg) (hk : z_in 0 5 kk) (hw : z_Pwm r1 f t m a1 nm h to w nm1 a2 F1 G1) (e1 : r1 = 1) (tt : to.toInt = kk.toInt + 30) (en : n0 = h (0 : Int32).toNatClampNeg) (hn : z_in 0 5 n0) (hn1 : z_in 0 7 (h 1)) (k5 : z_k5 h h2) : z_vh nm1 h' := by
  have ek : kk = h 3 := ek
  have en : n0 = h 0 := en
  have eh : upd h2 3 y' = h' := eh
  obtain ⟨c0, c1, c2, c3, c4⟩ := k5
  obtain ⟨-, e2, hc⟩ := z_PwmR hw e1
  obtain ⟨v0, v1, v3⟩ := hv
  have x0 := hn.1
  have y0 := hn.2
  have x1 := hk.1
  have x2 := hn1.1
  have y2 := hn1.2
  rw [e2]
  refine ⟨?_, ?_, ?_⟩
  · rw [z_upB eh (by decide), c0]
    exact z_vnU v0 (Or.inr (by rw [← en]; omega))
  · rw [z_upB eh (by decide), c1]
    exact z_vnU v1 (Or.inr (by omega))
  · rw [z_upA eh]
    exact z_vnA (n := h 3) v3 hc (by rw [← ek]; omega) (by rw [ty, ek]) (by rw [← ek]; omega)
theorem z_vhP (hv : z_vh nm h) (eh : upd h (0 : Int32).toNatClampNeg y' = h') (ty : y'.toInt = kk.toInt + 1) (ek : kk = h (0 : Int32).toNatClampNeg) (hk : z_in 0 4 kk) (hw : z_Pwm r1 f t m a1 nm h to w nm1 a2 F1 G1) (e1 : r1 = 1) (tt : to.toInt = kk.toInt + 18) : z_vh nm1 h' := by
  have ek : kk = h 0 := ek
  have eh : upd h 0 y' = h' := eh
  obtain ⟨-, e2, hc⟩ := z_PwmR hw e1
  obtain ⟨v0, v1, v3⟩ := hv
  have x1 := hk.1
  have y1 := hk.2
  rw [e2]
  refine ⟨?_, ?_, ?_⟩
  · rw [z_upA eh]
    exact z_vnA (n := h 0) v0 hc (by rw [← ek]; omega) (by rw [ty, ek]) (by rw [← ek]; omega)
  · rw [z_upB eh (by decide)]
    exact z_vnU v1 (Or.inl (by omega))
  · rw [z_upB eh (by decide)]
    exact z_vnU v3 (Or.inl (by omega))
theorem z_vhS {y : Int32} (hv : z_vh nm h) (eh : upd h2 (2 : Int32).toNatClampNeg y = h') (k5 : z_k5 h h2) : z_vh nm h' := by
  have eh : upd h2 2 y = h' := eh
  obtain ⟨c0, c1, c2, c3, c4⟩ := k5
  obtain ⟨v0, v1, v3⟩ := hv
  refine ⟨?_, ?_, ?_⟩
  · rw [z_upB eh (by decide), c0]
    exact v0
  · rw [z_upB eh (by decide), c1]
    exact v1
  · rw [z_upB eh (by decide), c3]
    exact v3
theorem z_vhF {lo hi : Int32} (hv : z_vh nm h) (hd : z_Pp r f t m lo hi a1 a2 F G h 4 h') : z_vh nm h' := by
  obtain ⟨v0, v1, v3⟩ := hv
  rcases hd with ⟨-, -, got, -, -, eh⟩ | ⟨-, eh, -⟩
  · have eh : upd h 4 got = h' := eh.symm
    refine ⟨?_, ?_, ?_⟩
    · rw [z_upB eh (by decide)]
      exact v0
    · rw [z_upB eh (by decide)]
      exact v1
    · rw [z_upB eh (by decide)]
      exact v3
  · rw [eh]
    exact ⟨v0, v1, v3⟩
theorem z_h4k (h4 : z_far4 h) (k5 : z_k5 h h2) : z_far4 h2 := by
  unfold z_far4
  rw [k5.2.2.2.2]
  exact h4
theorem z_h4u {y : Int32} {j : Nat} (h4 : z_far4 h) (k5 : z_k5 h h2) (eh : upd h2 j y = h') (hj : decide (¬ 4 = j) = true) : z_far4 h' := by
  have q := z_h4k h4 k5
  unfold z_far4
  rw [z_upB eh (of_decide_eq_true hj)]
  exact q
theorem z_h4F (h4 : z_far4 h) (hd : z_Pp r f t m 1 5 a1 a2 F G h 4 h') : z_far4 h' := by
  rcases hd with ⟨-, -, got, -, q, eh⟩ | ⟨-, eh, -⟩
  · have eh : upd h 4 got = h' := eh.symm
    have b := z_fNuB q
    unfold z_far4
    rw [z_upA eh]
    intro e
    have b : (1 : Int32).toInt ≤ got.toInt := b
    rw [e] at b
    exact absurd b (by decide)
  · rw [eh]
    exact h4
end
def z_rs9 : Nat → Int64 := vp_updL (vp_updL (vp_updL (vp_updL (vp_updL (vp_updL (vp_updL (vp_updL (vp_updL (vp_updL (vp_updL (vp_updL (vp_updL (vp_updL (vp_updL (vp_updL (vp_updL (vp_updL (vp_updL (vp_updL (vp_updL (fun _ => 0) 0 482854658917) 1 123581014175598) 2 448377742451) 3 126922498666359) 4 108243635170425) 5 6709618) 6 1735353715) 7 499850634611) 8 119182682645875) 9 28839564633334124) 10 6578553) 11 28530) 12 6385252) 13 7237492) 14 418431069797) 15 469852319348) 16 24948) 17 2003399784) 18 418363302244) 19 2003136628) 20 121450625394034
theorem z_rsvI : z_rsv z_rs9 := by
  intro i hi
  have c : i = 0 ∨ i = 1 ∨ i = 2 ∨ i = 3 ∨ i = 4 ∨ i = 5 ∨ i = 6 ∨ i = 7 ∨ i = 8 ∨ i = 9 ∨ i = 10 ∨ i = 11 ∨ i = 12 ∨ i = 13 ∨ i = 14 ∨ i = 15 ∨ i = 16 ∨ i = 17 ∨ i = 18 ∨ i = 19 ∨ i = 20 := by omega
  rcases c with e | e | e | e | e | e | e | e | e | e | e | e | e | e | e | e | e | e | e | e | e
  · subst e
    exact z_wd1
  · subst e
    exact z_wd2
  · subst e
    exact z_wd3
  · subst e
    exact z_wd4
  · subst e
    exact z_wd5
  · subst e
    exact z_wd6
  · subst e
    exact z_wd7
  · subst e
    exact z_wd8
  · subst e
    exact z_wd9
  · subst e
    exact z_wd10
  · subst e
    exact z_wd11
  · subst e
    exact z_wd12
  · subst e
    exact z_wd13
  · subst e
    exact z_wd14
  · subst e
    exact z_wd15
  · subst e
    exact z_wd16
  · subst e
    exact z_wd17
  · subst e
    exact z_wd18
  · subst e
    exact z_wd19
  · subst e
    exact z_wd20
  · subst e
    exact z_wd21
def z_cu (r i g0 g1 g2 g3 g4 t : Int32) : Prop := (i = 0 ∧ r = g0) ∨ (i = 1 ∧ r = g1) ∨ (i = 2 ∧ r = g2) ∨ (i = 3 ∧ r = g3) ∨ (i = 4 ∧ r = g4) ∨ (i = 5 ∧ r = t) ∨ ((i.toInt < 0 ∨ 5 < i.toInt) ∧ r = -1)
theorem z_cuE {r r' i g0 g1 g2 g3 g4 t : Int32} (h : z_cu r i g0 g1 g2 g3 g4 t) (h' : z_cu r' i g0 g1 g2 g3 g4 t) : r = r' := by
  have no : ∀ {a b : Int32}, i = a → i = b → ¬ a = b → r = r' := fun p q n => absurd (p.symm.trans q) n
  have ou : ∀ {a : Int32}, i = a → (i.toInt < 0 ∨ 5 < i.toInt) → decide (0 ≤ a.toInt ∧ a.toInt ≤ 5) = true → r = r' := fun p q n => by
    have n := of_decide_eq_true n
    rw [p] at q
    omega
  rcases h with ⟨a, b⟩ | ⟨a, b⟩ | ⟨a, b⟩ | ⟨a, b⟩ | ⟨a, b⟩ | ⟨a, b⟩ | ⟨a, b⟩ <;> rcases h' with ⟨c, d⟩ | ⟨c, d⟩ | ⟨c, d⟩ | ⟨c, d⟩ | ⟨c, d⟩ | ⟨c, d⟩ | ⟨c, d⟩ <;> first | exact b.trans d.symm | exact no a c (by decide) | exact ou a c rfl | exact ou c a rfl
section
variable {i g0 g1 g2 g3 g4 t : Int32}
theorem z_cu0 (h : z_in 0 0 i) : z_cu g0 i g0 g1 g2 g3 g4 t := Or.inl ⟨Int32.toInt_inj.mp (Int.le_antisymm h.2 h.1), rfl⟩
theorem z_cu1 (h : z_in 1 1 i) : z_cu g1 i g0 g1 g2 g3 g4 t := Or.inr (Or.inl ⟨Int32.toInt_inj.mp (Int.le_antisymm h.2 h.1), rfl⟩)
theorem z_cu2 (h : z_in 2 2 i) : z_cu g2 i g0 g1 g2 g3 g4 t := Or.inr (Or.inr (Or.inl ⟨Int32.toInt_inj.mp (Int.le_antisymm h.2 h.1), rfl⟩))
theorem z_cu3 (h : z_in 3 3 i) : z_cu g3 i g0 g1 g2 g3 g4 t := Or.inr (Or.inr (Or.inr (Or.inl ⟨Int32.toInt_inj.mp (Int.le_antisymm h.2 h.1), rfl⟩)))
theorem z_cu4 (h : z_in 4 4 i) : z_cu g4 i g0 g1 g2 g3 g4 t := Or.inr (Or.inr (Or.inr (Or.inr (Or.inl ⟨Int32.toInt_inj.mp (Int.le_antisymm h.2 h.1), rfl⟩))))
theorem z_cu5 (h : z_in 5 5 i) : z_cu t i g0 g1 g2 g3 g4 t := Or.inr (Or.inr (Or.inr (Or.inr (Or.inr (Or.inl ⟨Int32.toInt_inj.mp (Int.le_antisymm h.2 h.1), rfl⟩)))))
theorem z_cuN (h : i.toInt < 0 ∨ 5 < i.toInt) : z_cu (-1) i g0 g1 g2 g3 g4 t := Or.inr (Or.inr (Or.inr (Or.inr (Or.inr (Or.inr (⟨h, rfl⟩))))))
end
def z_cuM (r i : Int32) (g : Nat → Int32) (t : Int32) : Prop := z_cu r i (g 0) (g 1) (g 2) (g 3) (g 4) t
theorem z_cuM5 {i t : Int32} {g : Nat → Int32} (h : z_in 5 5 i) : z_cuM t i g t := z_cu5 h
theorem z_cuMI {r i q t : Int32} {g : Nat → Int32} (hi : z_ii q i 0 4) (hq : q = 1) (ey : r = g i.toNatClampNeg) : z_cuM r i g t := by
  have b : z_in 0 4 i := by
    rcases hi with ⟨-, h⟩ | ⟨h, -⟩
    · exact h
    · rw [hq] at h
      exact absurd h (by decide)
  have b1 := b.1
  have b2 := b.2
  have e : i.toInt = 0 ∨ i.toInt = 1 ∨ i.toInt = 2 ∨ i.toInt = 3 ∨ i.toInt = 4 := by omega
  rcases e with e | e | e | e | e
  · have e9 : i = 0 := Int32.toInt_inj.mp (e.trans (by decide))
    subst e9
    rw [ey]
    exact z_cu0 ⟨by decide, by decide⟩
  · have e9 : i = 1 := Int32.toInt_inj.mp (e.trans (by decide))
    subst e9
    rw [ey]
    exact z_cu1 ⟨by decide, by decide⟩
  · have e9 : i = 2 := Int32.toInt_inj.mp (e.trans (by decide))
    subst e9
    rw [ey]
    exact z_cu2 ⟨by decide, by decide⟩
  · have e9 : i = 3 := Int32.toInt_inj.mp (e.trans (by decide))
    subst e9
    rw [ey]
    exact z_cu3 ⟨by decide, by decide⟩
  · have e9 : i = 4 := Int32.toInt_inj.mp (e.trans (by decide))
    subst e9
    rw [ey]
    exact z_cu4 ⟨by decide, by decide⟩
theorem z_cuMN {i q t : Int32} {g : Nat → Int32} (hi : z_ii q i 0 4) (hq : q = 0) (h5 : ¬ i = 5) : z_cuM (-1) i g t := by
  have b : ¬ z_in 0 4 i := by
    rcases hi with ⟨h, -⟩ | ⟨-, h⟩
    · rw [hq] at h
      exact absurd h (by decide)
    · exact h
  refine z_cuN ?_
  have n5 : ¬ i.toInt = 5 := fun e => h5 (Int32.toInt_inj.mp (e.trans (by decide)))
  rcases Int.lt_or_le i.toInt 0 with q | q
  · exact Or.inl q
  · refine Or.inr ?_
    rcases Int.lt_or_le 4 i.toInt with q2 | q2
    · omega
    · exact absurd ⟨q, q2⟩ b
def z_it {α E : Type} (D : α → Prop) (g : α → E ⊕ α) : Nat → α → α → Prop
  | 0, x, y => y = x
  | n + 1, x, y => ∃ z : α, z_it D g n x z ∧ ¬ D z ∧ g z = .inr y
def z_ito {α E : Type} (D : α → Prop) (g : α → E ⊕ α) (x : α) (r : E ⊕ (α × Nat)) : Prop := ∃ (n : Nat) (y : α), z_it D g n x y ∧ ((D y ∧ r = .inr (y, n)) ∨ (¬ D y ∧ ∃ e : E, g y = .inl e ∧ r = .inl e))
theorem z_itE {α E : Type} {D : α → Prop} {g : α → E ⊕ α} : ∀ (n : Nat) {x y y' : α}, z_it D g n x y → z_it D g n x y' → y = y'
  | 0, x, y, y', h, h' => by
    have h : y = x := h
    have h' : y' = x := h'
    rw [h, h']
  | n + 1, x, y, y', h, h' => by
    obtain ⟨z, p, -, q⟩ := h
    obtain ⟨z', p', -, q'⟩ := h'
    have e := z_itE n p p'
    subst e
    exact Sum.inr.inj (q.symm.trans q')
theorem z_itL {α E : Type} {D : α → Prop} {g : α → E ⊕ α} : ∀ (n k : Nat) {x y y' : α}, z_it D g n x y → z_it D g (n + k + 1) x y' → ¬ D y ∧ ∃ q : α, g y = .inr q
  | n, 0, _, _, _, h, h' => by
    obtain ⟨z, p, d, q⟩ := h'
    have e := z_itE n h p
    subst e
    exact ⟨d, _, q⟩
  | n, k + 1, _, _, _, h, h' => by
    obtain ⟨z, p, -, -⟩ := h'
    exact z_itL n k h p
theorem z_itoE {α E : Type} {D : α → Prop} {g : α → E ⊕ α} {x : α} {r r' : E ⊕ (α × Nat)} (h : z_ito D g x r) (h' : z_ito D g x r') : r = r' := by
  obtain ⟨n, y, p, q⟩ := h
  obtain ⟨k, y', p', q'⟩ := h'
  rcases Nat.lt_trichotomy n k with e | e | e
  · obtain ⟨d, rfl⟩ : ∃ d, k = n + d + 1 := ⟨k - n - 1, by omega⟩
    obtain ⟨u, z, hz⟩ := z_itL n d p p'
    rcases q with ⟨q, -⟩ | ⟨-, v, w, -⟩
    · exact absurd q u
    · rw [w] at hz
      cases hz
  · subst e
    have e := z_itE n p p'
    subst e
    rcases q with ⟨q, e⟩ | ⟨q, v, w, e⟩ <;> rcases q' with ⟨q', e'⟩ | ⟨q', v', w', e'⟩
    · exact e.trans e'.symm
    · exact absurd q q'
    · exact absurd q' q
    · rw [w] at w'
      rw [e, e', Sum.inl.inj w']
  · obtain ⟨d, rfl⟩ : ∃ d, n = k + d + 1 := ⟨n - k - 1, by omega⟩
    obtain ⟨u, z, hz⟩ := z_itL k d p' p
    rcases q' with ⟨q, -⟩ | ⟨-, v, w, -⟩
    · exact absurd q u
    · rw [w] at hz
      cases hz
theorem z_itI {α E : Type} {D : α → Prop} {g : α → E ⊕ α} {I : Nat → α → Prop} (hs : ∀ (n : Nat) (x y : α), I n x → ¬ D x → g x = .inr y → I (n + 1) y) : ∀ (n : Nat) {x y : α}, I 0 x → z_it D g n x y → I n y
  | 0, x, y, h, h' => by
    have h' : y = x := h'
    rw [h']
    exact h
  | n + 1, x, y, h, h' => by
    obtain ⟨z, p, d, q⟩ := h'
    exact hs n z y (z_itI hs n h p) d q
def z_iw9 (f : Nat → Int32) (t m a : Int32) (w : Nat) : Prop := (w = 0 ∧ ∀ i : Nat, 1 ≤ i → i < 22 → ¬ z_TL f t m a (z_cds.getD i 0)) ∨ (1 ≤ w ∧ w < 22 ∧ z_TL f t m a (z_cds.getD w 0))
theorem z_iw9E {f : Nat → Int32} {t m a : Int32} {w w' : Nat} (h : z_iw9 f t m a w) (h' : z_iw9 f t m a w') : w = w' := by
  rcases h with ⟨e, n⟩ | ⟨a1, b1, l⟩ <;> rcases h' with ⟨e', n'⟩ | ⟨a2, b2, l'⟩
  · exact e.trans e'.symm
  · exact absurd l' (n w' a2 b2)
  · exact absurd l (n' w a1 b1)
  · exact z_cdsD w b1 w' b2 (z_TlE l l')
noncomputable def z_wx (f : Nat → Int32) (t m a : Int32) : Nat := @Classical.epsilon Nat ⟨0⟩ (fun w => z_iw9 f t m a w)
theorem z_wxE {f : Nat → Int32} {t m a : Int32} {w : Nat} (h : z_iw9 f t m a w) : z_wx f t m a = w := z_iw9E (@Classical.epsilon_spec_aux Nat ⟨0⟩ (fun w => z_iw9 f t m a w) ⟨w, h⟩) h
def z_dn : List Nat → List Nat
  | [] => []
  | x :: K => if x = 0 then z_dn K else x :: K
def z_dj (o : Nat) : List Nat → List Nat
  | [] => []
  | x :: K => if x = 1 ∨ (x = 2 ∧ o = 2) then z_dj o K else x :: K
def z_kt : List Nat → Nat
  | [] => 0
  | x :: K => z_kt K + (if x = 1 ∨ x = 2 then 0 else 1)
theorem z_dnT {x : Nat} {K : List Nat} (h : x = 0) : z_dn (x :: K) = z_dn K := if_pos h
theorem z_dnF {x : Nat} {K : List Nat} (h : ¬ x = 0) : z_dn (x :: K) = x :: K := if_neg h
theorem z_djT {o x : Nat} {K : List Nat} (h : x = 1 ∨ (x = 2 ∧ o = 2)) : z_dj o (x :: K) = z_dj o K := if_pos h
theorem z_djF {o x : Nat} {K : List Nat} (h : ¬ (x = 1 ∨ (x = 2 ∧ o = 2))) : z_dj o (x :: K) = x :: K := if_neg h
theorem z_ktJ {x : Nat} {K : List Nat} (h : x = 1 ∨ x = 2) : z_kt (x :: K) = z_kt K := by
  show z_kt K + (if x = 1 ∨ x = 2 then 0 else 1) = z_kt K
  rw [if_pos h, Nat.add_zero]
theorem z_ktN {x : Nat} {K : List Nat} (h : ¬ (x = 1 ∨ x = 2)) : z_kt (x :: K) = z_kt K + 1 := by
  show z_kt K + (if x = 1 ∨ x = 2 then 0 else 1) = z_kt K + 1
  rw [if_neg h]
theorem z_dnB : ∀ (K : List Nat), z_kt (z_dn K) ≤ z_kt K ∧ (z_dn K).length ≤ K.length
  | [] => ⟨Nat.le_refl _, Nat.le_refl _⟩
  | x :: K => by
    by_cases q : x = 0
    · have ih := z_dnB K
      have e := z_ktN (x := x) (K := K) (by omega)
      have l : (x :: K).length = K.length + 1 := rfl
      rw [z_dnT q] <;> omega
    · rw [z_dnF q]
      exact ⟨Nat.le_refl _, Nat.le_refl _⟩
theorem z_djB (o : Nat) : ∀ (K : List Nat), z_kt (z_dj o K) = z_kt K ∧ (z_dj o K).length ≤ K.length
  | [] => ⟨rfl, Nat.le_refl _⟩
  | x :: K => by
    by_cases q : x = 1 ∨ (x = 2 ∧ o = 2)
    · have ih := z_djB o K
      have e := z_ktJ (x := x) (K := K) (by omega)
      have l : (x :: K).length = K.length + 1 := rfl
      rw [z_djT q] <;> omega
    · rw [z_djF q]
      exact ⟨rfl, Nat.le_refl _⟩
theorem z_djH : ∀ (K : List Nat), (z_dj 2 K = [] ∧ z_kt K = 0) ∨ ∃ (y : Nat) (M : List Nat), z_dj 2 K = y :: M ∧ z_kt K = z_kt M + 1
  | [] => Or.inl ⟨rfl, rfl⟩
  | x :: K => by
    by_cases q : x = 1 ∨ x = 2
    · have q2 : x = 1 ∨ (x = 2 ∧ 2 = 2) := by omega
      rw [z_djT q2, z_ktJ q]
      exact z_djH K
    · have q2 : ¬ (x = 1 ∨ (x = 2 ∧ 2 = 2)) := by omega
      exact Or.inr ⟨x, K, z_djF q2, z_ktN q⟩
noncomputable def z_fCp (f : Nat → Int32) (t m a : Int32) : (Int32 × Int32) ⊕ Int32 := z_if (z_TS f t m a 60 ∨ z_TS f t m a 61 ∨ z_TS f t m a 62) (z_bd (z_fNu f t m 0 999 (z_nxt f t m a)) (fun q => .inr q.2)) (.inl (1, a))
noncomputable def z_fLw (f : Nat → Int32) (t m : Int32) (P U : List Int64) (w : Nat) (a : Int32) : (Int32 × Int32) ⊕ Int32 := z_if (w = 17) (z_bd (z_fPk f t m P a) (fun q => .inr q.2)) (z_if (w = 18) (z_bd (z_fPk f t m U a) (fun q => .inr q.2)) (z_if (w = 19 ∨ w = 20 ∨ w = 21) (z_fCp f t m a) (.inr a)))
def z_bg (w : Nat) : Prop := w = 14 ∨ w = 3 ∨ w = 15 ∨ w = 16 ∨ w = 17 ∨ w = 18 ∨ w = 19 ∨ w = 20 ∨ w = 21
abbrev z_SX : Type := Int32 × List Nat × Int32
noncomputable def z_fOn (f : Nat → Int32) (t m : Int32) (P U : List Int64) (o : Int32) (K : List Nat) (a : Int32) : (Int32 × Int32) ⊕ (z_SX × Int32) :=
  z_if (¬ z_TS f t m a 40 ∧ ¬ z_bg (z_wx f t m a)) (.inl (1, a)) (z_if (20 ≤ o.toInt ∨ 8 ≤ z_kt K) (.inl (4, a)) (z_if (z_TS f t m a 40) (.inr ((o + 1, 3 :: K, 1), z_nxt f t m a)) (z_if (z_wx f t m a = 14) (.inr ((o + 1, 0 :: K, 1), z_nxt f t m a)) (z_bd (z_fLw f t m P U (z_wx f t m a) (z_nxt f t m a)) (fun a' => .inr ((o + 1, z_dn K, 0), a'))))))
noncomputable def z_fJt (f : Nat → Int32) (t m : Int32) (o : Int32) (K : List Nat) (a : Int32) : (Int32 × Int32) ⊕ (z_SX × Int32) :=
  z_if (z_wx f t m a = 13) (.inr ((o, 1 :: z_dj 1 K, 1), z_nxt f t m a)) (z_if (z_wx f t m a = 12) (.inr ((o, 2 :: z_dj 2 K, 1), z_nxt f t m a)) (z_if (z_kt K = 0) (.inl (1, a)) (z_bd (z_fSg f t m 41 a) (fun a' => .inr ((o, z_dn (z_dj 2 K).tail, 0), a')))))
noncomputable def z_fTn (f : Nat → Int32) (t m : Int32) (P U : List Int64) (x : z_SX × Int32) : (Int32 × Int32) ⊕ (z_SX × Int32) := z_if (x.1.2.2 = 1) (z_fOn f t m P U x.1.1 x.1.2.1 x.2) (z_fJt f t m x.1.1 x.1.2.1 x.2)
theorem z_fTnO {f : Nat → Int32} {t m o w a : Int32} {P U : List Int64} {K : List Nat} (h : w = 1) : z_fTn f t m P U ((o, K, w), a) = z_fOn f t m P U o K a := z_ifT h
theorem z_fTnJ {f : Nat → Int32} {t m o w a : Int32} {P U : List Int64} {K : List Nat} (h : ¬ w = 1) : z_fTn f t m P U ((o, K, w), a) = z_fJt f t m o K a := z_ifF h
def z_De (t m : Int32) (x : z_SX × Int32) : Prop := x.1.2.2 = 0 ∧ z_kt x.1.2.1 = 0 ∧ z_TE t m x.2
def z_fSe (f : Nat → Int32) (t : Int32) (P U : List Int64) (r : (Int32 × Int32) ⊕ ((z_SX × Int32) × Nat)) : Prop := ∃ a0 : Int32, 0 ≤ a0.toInt ∧ z_Tx f t.toInt.toNat (200 : Int32).toInt.toNat 0 a0.toInt.toNat ∧ z_ito (z_De t 200) (z_fTn f t 200 P U) ((0, [], 1), a0) r
theorem z_fSeE {f : Nat → Int32} {t : Int32} {P U : List Int64} {r r' : (Int32 × Int32) ⊕ ((z_SX × Int32) × Nat)} (h : z_fSe f t P U r) (h' : z_fSe f t P U r') : r = r' := by
  obtain ⟨a, p, q, s⟩ := h
  obtain ⟨b, p', q', s'⟩ := h'
  have e := z_TxE q q'
  have e2 : a = b := Int32.toInt_inj.mp (by omega)
  subst e2
  exact z_itoE s s'
def z_Sn (r : Int32) (f : Nat → Int32) (t : Int32) (P U : List Int64) : Prop := (∃ (K : List Nat) (w a : Int32) (n : Nat), z_fSe f t P U (.inr (((r, K, w), a), n))) ∨ (∃ F G : Int32, r = -1 - G ∧ z_fSe f t P U (.inl (F, G)))
theorem z_SnE {r r' : Int32} {f : Nat → Int32} {t : Int32} {P U : List Int64} (h : z_Sn r f t P U) (h' : z_Sn r' f t P U) : r = r' := by
  rcases h with ⟨K, w, a, n, q⟩ | ⟨F, G, e, q⟩ <;> rcases h' with ⟨K', w', a', n', q'⟩ | ⟨F', G', e', q'⟩
  · have e := congrArg Prod.fst (congrArg Prod.fst (congrArg Prod.fst (Sum.inr.inj (z_fSeE q q'))))
    exact e
  · exact absurd (z_fSeE q q') (by intro e; cases e)
  · exact absurd (z_fSeE q q') (by intro e; cases e)
  · have e2 : G = G' := congrArg Prod.snd (Sum.inl.inj (z_fSeE q q'))
    rw [e, e', e2]
def z_sI9 (n : Nat) (x : z_SX × Int32) : Prop := 0 ≤ x.1.1.toInt ∧ x.1.1.toInt ≤ 20 ∧ (n : Int) + z_kt x.1.2.1 + (if x.1.2.2 = 1 then (0 : Int) else 1) ≤ 3 * x.1.1.toInt ∧ (x.1.2.1.length : Int) + (if x.1.2.2 = 1 then (0 : Int) else 1) ≤ 2 * x.1.1.toInt
theorem z_sI9O {f : Nat → Int32} {t m o a : Int32} {P U : List Int64} {K : List Nat} {n : Nat} {y : z_SX × Int32} (h : z_sI9 n ((o, K, 1), a)) (hy : z_fOn f t m P U o K a = .inr y) : z_sI9 (n + 1) y := by
  obtain ⟨h0, h1, h2, h3⟩ := h
  have h0 : 0 ≤ o.toInt := h0
  have h1 : o.toInt ≤ 20 := h1
  have h2 : (n : Int) + z_kt K + (if (1 : Int32) = 1 then (0 : Int) else 1) ≤ 3 * o.toInt := h2
  have h3 : (K.length : Int) + (if (1 : Int32) = 1 then (0 : Int) else 1) ≤ 2 * o.toInt := h3
  rw [if_pos rfl] at h2 h3
  have to : o.toInt < 20 → (o + 1).toInt = o.toInt + 1 := fun q => z_addT (a := 0) (b := 20) (c := 1) (d := 1) ⟨h0, h1⟩ ⟨by decide, by decide⟩ rfl
  rcases z_ifI hy with ⟨-, hy⟩ | ⟨-, hy⟩
  · cases hy
  rcases z_ifI hy with ⟨-, hy⟩ | ⟨nb, hy⟩
  · cases hy
  have lo : o.toInt < 20 := by omega
  have to := to lo
  rcases z_ifI hy with ⟨-, hy⟩ | ⟨-, hy⟩
  · rw [← Sum.inr.inj hy]
    have e := z_ktN (x := 3) (K := K) (by decide)
    refine ⟨?_, ?_, ?_, ?_⟩
    · show 0 ≤ (o + 1).toInt
      omega
    · show (o + 1).toInt ≤ 20
      omega
    · show ((n + 1 : Nat) : Int) + z_kt (3 :: K) + (if (1 : Int32) = 1 then (0 : Int) else 1) ≤ 3 * (o + 1).toInt
      rw [if_pos rfl, e] <;> omega
    · show (((3 :: K : List Nat)).length : Int) + (if (1 : Int32) = 1 then (0 : Int) else 1) ≤ 2 * (o + 1).toInt
      rw [if_pos rfl, List.length_cons] <;> omega
  rcases z_ifI hy with ⟨-, hy⟩ | ⟨-, hy⟩
  · rw [← Sum.inr.inj hy]
    have e := z_ktN (x := 0) (K := K) (by decide)
    refine ⟨?_, ?_, ?_, ?_⟩
    · show 0 ≤ (o + 1).toInt
      omega
    · show (o + 1).toInt ≤ 20
      omega
    · show ((n + 1 : Nat) : Int) + z_kt (0 :: K) + (if (1 : Int32) = 1 then (0 : Int) else 1) ≤ 3 * (o + 1).toInt
      rw [if_pos rfl, e] <;> omega
    · show (((0 :: K : List Nat)).length : Int) + (if (1 : Int32) = 1 then (0 : Int) else 1) ≤ 2 * (o + 1).toInt
      rw [if_pos rfl, List.length_cons] <;> omega
  · obtain ⟨z, -, hy⟩ := z_bdI hy
    rw [← Sum.inr.inj hy]
    have b := z_dnB K
    refine ⟨?_, ?_, ?_, ?_⟩
    · show 0 ≤ (o + 1).toInt
      omega
    · show (o + 1).toInt ≤ 20
      omega
    · show ((n + 1 : Nat) : Int) + z_kt (z_dn K) + (if (0 : Int32) = 1 then (0 : Int) else 1) ≤ 3 * (o + 1).toInt
      rw [if_neg (by decide)] <;> omega
    · show ((z_dn K).length : Int) + (if (0 : Int32) = 1 then (0 : Int) else 1) ≤ 2 * (o + 1).toInt
      rw [if_neg (by decide)] <;> omega
theorem z_sI9J {f : Nat → Int32} {t m o a w : Int32} {K : List Nat} {n : Nat} {y : z_SX × Int32} (h : z_sI9 n ((o, K, w), a)) (hw : ¬ w = 1) (hy : z_fJt f t m o K a = .inr y) : z_sI9 (n + 1) y := by
  obtain ⟨h0, h1, h2, h3⟩ := h
  have h0 : 0 ≤ o.toInt := h0
  have h1 : o.toInt ≤ 20 := h1
  have h2 : (n : Int) + z_kt K + (if w = 1 then (0 : Int) else 1) ≤ 3 * o.toInt := h2
  have h3 : (K.length : Int) + (if w = 1 then (0 : Int) else 1) ≤ 2 * o.toInt := h3
  rw [if_neg hw] at h2 h3
  rcases z_ifI hy with ⟨-, hy⟩ | ⟨-, hy⟩
  · rw [← Sum.inr.inj hy]
    have b := z_djB 1 K
    have e := z_ktJ (x := 1) (K := z_dj 1 K) (by decide)
    refine ⟨h0, h1, ?_, ?_⟩
    · show ((n + 1 : Nat) : Int) + z_kt (1 :: z_dj 1 K) + (if (1 : Int32) = 1 then (0 : Int) else 1) ≤ 3 * o.toInt
      rw [if_pos rfl, e] <;> omega
    · show (((1 :: z_dj 1 K : List Nat)).length : Int) + (if (1 : Int32) = 1 then (0 : Int) else 1) ≤ 2 * o.toInt
      rw [if_pos rfl, List.length_cons] <;> omega
  rcases z_ifI hy with ⟨-, hy⟩ | ⟨-, hy⟩
  · rw [← Sum.inr.inj hy]
    have b := z_djB 2 K
    have e := z_ktJ (x := 2) (K := z_dj 2 K) (by decide)
    refine ⟨h0, h1, ?_, ?_⟩
    · show ((n + 1 : Nat) : Int) + z_kt (2 :: z_dj 2 K) + (if (1 : Int32) = 1 then (0 : Int) else 1) ≤ 3 * o.toInt
      rw [if_pos rfl, e] <;> omega
    · show (((2 :: z_dj 2 K : List Nat)).length : Int) + (if (1 : Int32) = 1 then (0 : Int) else 1) ≤ 2 * o.toInt
      rw [if_pos rfl, List.length_cons] <;> omega
  rcases z_ifI hy with ⟨-, hy⟩ | ⟨nk, hy⟩
  · cases hy
  · obtain ⟨z, -, hy⟩ := z_bdI hy
    rw [← Sum.inr.inj hy]
    have l := (z_djB 2 K).2
    rcases z_djH K with ⟨-, q⟩ | ⟨x, M, q, q2⟩
    · exact absurd q nk
    · have b := z_dnB M
      rw [q, List.length_cons] at l
      have e : (z_dj 2 K).tail = M := congrArg List.tail q
      refine ⟨h0, h1, ?_, ?_⟩
      · show ((n + 1 : Nat) : Int) + z_kt (z_dn (z_dj 2 K).tail) + (if (0 : Int32) = 1 then (0 : Int) else 1) ≤ 3 * o.toInt
        rw [if_neg (by decide), e] <;> omega
      · show ((z_dn (z_dj 2 K).tail).length : Int) + (if (0 : Int32) = 1 then (0 : Int) else 1) ≤ 2 * o.toInt
        rw [if_neg (by decide), e] <;> omega
theorem z_sI9T {f : Nat → Int32} {t m : Int32} {P U : List Int64} {n : Nat} {x y : z_SX × Int32} (h : z_sI9 n x) (hy : z_fTn f t m P U x = .inr y) : z_sI9 (n + 1) y := by
  obtain ⟨⟨o, K, w⟩, a⟩ := x
  rcases z_ifI hy with ⟨e, hy⟩ | ⟨e, hy⟩
  · have e : w = 1 := e
    subst e
    exact z_sI9O h hy
  · exact z_sI9J h e hy
theorem z_sI9R {f : Nat → Int32} {t m : Int32} {P U : List Int64} {D : z_SX × Int32 → Prop} {a0 : Int32} {n : Nat} {y : z_SX × Int32} (h : z_it D (z_fTn f t m P U) n ((0, [], 1), a0) y) : z_sI9 n y := z_itI (D := D) (g := z_fTn f t m P U) (I := z_sI9) (fun _ _ _ i _ e => z_sI9T i e) n ⟨(by decide : (0 : Int) ≤ (0 : Int32).toInt), (by decide : (0 : Int32).toInt ≤ 20), (by decide : ((0 : Nat) : Int) + (z_kt [] : Nat) + (if (1 : Int32) = 1 then (0 : Int) else 1) ≤ 3 * (0 : Int32).toInt), (by decide : ((([] : List Nat).length : Nat) : Int) + (if (1 : Int32) = 1 then (0 : Int) else 1) ≤ 2 * (0 : Int32).toInt)⟩ h
abbrev z_NT : Type := List Int64 × List Int64 × List Int64
def z_n3 (cl : Nat → Int64) (nl : Int32) (cp : Nat → Int64) (np : Int32) (cu : Nat → Int64) (nu : Int32) : z_NT := (z_ls cl nl, z_ls cp np, z_ls cu nu)
def z_lq (f : Nat → Int64) (n : Int32) (g : Nat → Int64) (k : Int32) : Prop := z_ls f n = z_ls g k
theorem z_lqr (f : Nat → Int64) (n : Int32) : z_lq f n f n := rfl
theorem z_lqI {f g h : Nat → Int64} {n : Int32} {L : Nat} {b : Int} (e : va_cpy g h 0 0 L = f) (hn : z_in 0 b n) (hb : decide (b ≤ (L : Int)) = true) : z_lq f n g n := by
  have hb := of_decide_eq_true hb
  have n1 := hn.1
  have n2 := hn.2
  unfold z_lq z_ls
  apply List.map_congr_left
  intro j hj
  have hj := List.mem_range.mp hj
  rw [← e]
  show (if 0 ≤ j ∧ j < 0 + L then g (0 + (j - 0)) else h j) = g j
  rw [if_pos ⟨Nat.zero_le _, by omega⟩, Nat.zero_add, Nat.sub_zero]
theorem z_n3E {a b c a' b' c' : Nat → Int64} {x y z x' y' z' : Int32} (h1 : z_lq a x a' x') (h2 : z_lq b y b' y') (h3 : z_lq c z c' z') : z_n3 a x b y c z = z_n3 a' x' b' y' c' z' := by
  have h1 : z_ls a x = z_ls a' x' := h1
  have h2 : z_ls b y = z_ls b' y' := h2
  have h3 : z_ls c z = z_ls c' z' := h3
  unfold z_n3
  rw [h1, h2, h3]
def z_Nt (f : Nat → Int32) (t : Int32) (X A : z_NT) : Prop := (∃ (S : z_TW) (n : Nat), z_fT0 f t 900 (.inr (S, n)) ∧ X = (S.1, S.2.1, S.2.2.1)) ∨ ((∃ e : Int32 × Int32, z_fT0 f t 900 (.inl e)) ∧ X = A)
theorem z_NtE {f : Nat → Int32} {t : Int32} {X Y A : z_NT} (h : z_Nt f t X A) (h' : z_Nt f t Y A) : X = Y := by
  rcases h with ⟨S, n, q, s⟩ | ⟨⟨e, q⟩, s⟩ <;> rcases h' with ⟨S', n', q', s'⟩ | ⟨⟨e', q'⟩, s'⟩
  · have e := congrArg Prod.fst (Sum.inr.inj (z_fT0E q q'))
    have e : S = S' := e
    subst e
    exact s.trans s'.symm
  · exact absurd (z_fT0E q q') (by intro e; cases e)
  · exact absurd (z_fT0E q q') (by intro e; cases e)
  · exact s.trans s'.symm
def z_TnC (f : Nat → Int32) (t : Int32) (xl : Nat → Int64) (xm : Int32) (xp : Nat → Int64) (xq : Int32) (xu : Nat → Int64) (xv : Int32) (al : Nat → Int64) (am : Int32) (ap : Nat → Int64) (aq : Int32) (au : Nat → Int64) (av : Int32) : Prop := z_Nt f t (z_n3 xl xm xp xq xu xv) (z_n3 al am ap aq au av)
section
variable {f : Nat → Int32} {t m r nl np nu ms fr F G xm xq xv am aq av : Int32} {cl cp cu xl xp xu al ap au : Nat → Int64}
theorem z_TnC0 (h : z_Rt f t m r cl nl cp np cu nu ms fr F G) (hn : ¬ r = -1) (q2 : z_sz m 900) (e0 : z_lq xl xm cl nl) (e1 : z_lq xp xq cp np) (e2 : z_lq xu xv cu nu) : z_TnC f t xl xm xp xq xu xv al am ap aq au av := by
  have q2 : m = 900 := q2
  subst q2
  unfold z_TnC
  rw [z_n3E e0 e1 e2]
  rcases h with ⟨-, -, fr0, -, q⟩ | ⟨e, -⟩
  · exact Or.inl ⟨_, _, q, rfl⟩
  · exact absurd e hn
theorem z_TnC1 (h : z_Rt f t m r cl nl cp np cu nu ms fr F G) (hr : r = -1) (q2 : z_sz m 900) : z_TnC f t al am ap aq au av al am ap aq au av := by
  have q2 : m = 900 := q2
  subst q2
  rcases h with ⟨h0, -⟩ | ⟨-, q⟩
  · rw [hr] at h0
    exact absurd h0 (by decide)
  · exact Or.inr ⟨⟨_, q⟩, rfl⟩
theorem z_TnCX {A : z_NT} (h : z_TnC f t xl xm xp xq xu xv al am ap aq au av) (e : z_n3 al am ap aq au av = A) : z_Nt f t (z_n3 xl xm xp xq xu xv) A := by
  rw [← e]
  exact h
end
def z_In (X Y A B G : z_NT) (i : Int32) : Prop := (i = 0 ∧ X = G ∧ Y = B) ∨ (i = 1 ∧ X = A ∧ Y = G) ∨ (¬ z_in 0 1 i ∧ X = A ∧ Y = B)
theorem z_i010 {i : Int32} (h : i = 0) : z_in 0 1 i := by rw [h]; exact ⟨by decide, by decide⟩
theorem z_i011 {i : Int32} (h : i = 1) : z_in 0 1 i := by rw [h]; exact ⟨by decide, by decide⟩
theorem z_InE {X Y X' Y' A B G : z_NT} {i : Int32} (h : z_In X Y A B G i) (h' : z_In X' Y' A B G i) : X = X' ∧ Y = Y' := by
  rcases h with ⟨i0, h1, h2⟩ | ⟨i0, h1, h2⟩ | ⟨i0, h1, h2⟩ <;> rcases h' with ⟨j0, g1, g2⟩ | ⟨j0, g1, g2⟩ | ⟨j0, g1, g2⟩
  · exact ⟨h1.trans g1.symm, h2.trans g2.symm⟩
  · exact absurd (i0.symm.trans j0) (by decide)
  · exact absurd (z_i010 i0) j0
  · exact absurd (i0.symm.trans j0) (by decide)
  · exact ⟨h1.trans g1.symm, h2.trans g2.symm⟩
  · exact absurd (z_i011 i0) j0
  · exact absurd (z_i010 j0) i0
  · exact absurd (z_i011 j0) i0
  · exact ⟨h1.trans g1.symm, h2.trans g2.symm⟩
def z_Rn (X G A B : z_NT) (c d i : Int32) : Prop := (i = 0 ∧ c = 1 ∧ X = A) ∨ (i = 1 ∧ d = 1 ∧ X = B) ∨ (¬ (i = 0 ∧ c = 1) ∧ ¬ (i = 1 ∧ d = 1) ∧ X = G)
theorem z_RnE {X X' G A B : z_NT} {c d i : Int32} (h : z_Rn X G A B c d i) (h' : z_Rn X' G A B c d i) : X = X' := by
  rcases h with ⟨i0, h0, h1⟩ | ⟨i0, h0, h1⟩ | ⟨i0, h0, h1⟩ <;> rcases h' with ⟨j0, g0, g1⟩ | ⟨j0, g0, g1⟩ | ⟨j0, g0, g1⟩
  · exact h1.trans g1.symm
  · exact absurd (i0.symm.trans j0) (by decide)
  · exact absurd ⟨i0, h0⟩ j0
  · exact absurd (i0.symm.trans j0) (by decide)
  · exact h1.trans g1.symm
  · exact absurd ⟨i0, h0⟩ g0
  · exact absurd ⟨j0, g0⟩ i0
  · exact absurd ⟨j0, g0⟩ h0
  · exact h1.trans g1.symm
def z_InC (xl : Nat → Int64) (xm : Int32) (xp : Nat → Int64) (xq : Int32) (xu : Nat → Int64) (xv : Int32) (yl : Nat → Int64) (ym : Int32) (yp : Nat → Int64) (yq : Int32) (yu : Nat → Int64) (yv : Int32) (al : Nat → Int64) (am : Int32) (ap : Nat → Int64) (aq : Int32) (au : Nat → Int64) (av : Int32) (bl : Nat → Int64) (bm : Int32) (bp : Nat → Int64) (bq : Int32) (bu : Nat → Int64) (bv : Int32) (gl : Nat → Int64) (gm : Int32) (gp : Nat → Int64) (gq : Int32) (gu : Nat → Int64) (gv i : Int32) : Prop := z_In (z_n3 xl xm xp xq xu xv) (z_n3 yl ym yp yq yu yv) (z_n3 al am ap aq au av) (z_n3 bl bm bp bq bu bv) (z_n3 gl gm gp gq gu gv) i
def z_RnC (xl : Nat → Int64) (xm : Int32) (xp : Nat → Int64) (xq : Int32) (xu : Nat → Int64) (xv : Int32) (gl : Nat → Int64) (gm : Int32) (gp : Nat → Int64) (gq : Int32) (gu : Nat → Int64) (gv : Int32) (al : Nat → Int64) (am : Int32) (ap : Nat → Int64) (aq : Int32) (au : Nat → Int64) (av : Int32) (bl : Nat → Int64) (bm : Int32) (bp : Nat → Int64) (bq : Int32) (bu : Nat → Int64) (bv c d i : Int32) : Prop := z_Rn (z_n3 xl xm xp xq xu xv) (z_n3 gl gm gp gq gu gv) (z_n3 al am ap aq au av) (z_n3 bl bm bp bq bu bv) c d i
section
variable {i c d xm xq xv ym yq yv am aq av bm bq bv gm gq gv : Int32} {xl xp xu yl yp yu al ap au bl bp bu gl gp gu : Nat → Int64}
theorem z_y0' (h : z_in 0 0 i) : i = 0 := Int32.toInt_inj.mp (Int.le_antisymm h.2 h.1)
theorem z_y1' (h : z_in 1 1 i) : i = 1 := Int32.toInt_inj.mp (Int.le_antisymm h.2 h.1)
theorem z_yL (h : z_in (-2147483648) (-1) i) : ¬ z_in 0 1 i := fun q => by have := q.1; have := h.2; omega
theorem z_yH (h : z_in 2 2147483647 i) : ¬ z_in 0 1 i := fun q => by have := q.2; have := h.1; omega
theorem z_InC0 (h : z_in 0 0 i) (e1 : z_lq xl xm gl gm) (e2 : z_lq xp xq gp gq) (e3 : z_lq xu xv gu gv) : z_InC xl xm xp xq xu xv bl bm bp bq bu bv al am ap aq au av bl bm bp bq bu bv gl gm gp gq gu gv i := Or.inl ⟨z_y0' h, z_n3E e1 e2 e3, rfl⟩
theorem z_InC1 (h : z_in 1 1 i) (e1 : z_lq yl ym gl gm) (e2 : z_lq yp yq gp gq) (e3 : z_lq yu yv gu gv) : z_InC al am ap aq au av yl ym yp yq yu yv al am ap aq au av bl bm bp bq bu bv gl gm gp gq gu gv i := Or.inr (Or.inl ⟨z_y1' h, rfl, z_n3E e1 e2 e3⟩)
theorem z_InCL (h : z_in (-2147483648) (-1) i) : z_InC al am ap aq au av bl bm bp bq bu bv al am ap aq au av bl bm bp bq bu bv gl gm gp gq gu gv i := Or.inr (Or.inr ⟨z_yL h, rfl, rfl⟩)
theorem z_InCH (h : z_in 2 2147483647 i) : z_InC al am ap aq au av bl bm bp bq bu bv al am ap aq au av bl bm bp bq bu bv gl gm gp gq gu gv i := Or.inr (Or.inr ⟨z_yH h, rfl, rfl⟩)
theorem z_InCX {A B G : z_NT} (h : z_InC xl xm xp xq xu xv yl ym yp yq yu yv al am ap aq au av bl bm bp bq bu bv gl gm gp gq gu gv i) (e1 : z_n3 al am ap aq au av = A) (e2 : z_n3 bl bm bp bq bu bv = B) (e3 : z_n3 gl gm gp gq gu gv = G) : z_In (z_n3 xl xm xp xq xu xv) (z_n3 yl ym yp yq yu yv) A B G i := by
  rw [← e1, ← e2, ← e3]
  exact h
theorem z_RnC0 (h : z_in 0 0 i) (hc : c = 1) (e1 : z_lq xl xm al am) (e2 : z_lq xp xq ap aq) (e3 : z_lq xu xv au av) : z_RnC xl xm xp xq xu xv gl gm gp gq gu gv al am ap aq au av bl bm bp bq bu bv c d i := Or.inl ⟨z_y0' h, hc, z_n3E e1 e2 e3⟩
theorem z_RnC1 (h : z_in 1 1 i) (hd : d = 1) (e1 : z_lq xl xm bl bm) (e2 : z_lq xp xq bp bq) (e3 : z_lq xu xv bu bv) : z_RnC xl xm xp xq xu xv gl gm gp gq gu gv al am ap aq au av bl bm bp bq bu bv c d i := Or.inr (Or.inl ⟨z_y1' h, hd, z_n3E e1 e2 e3⟩)
theorem z_RnN9 {X A B : z_NT} (h : ¬ z_in 0 1 i) : z_Rn X X A B c d i := Or.inr (Or.inr ⟨fun q => h (z_i010 q.1), fun q => h (z_i011 q.1), rfl⟩)
theorem z_RnCL (h : z_in (-2147483648) (-1) i) : z_RnC gl gm gp gq gu gv gl gm gp gq gu gv al am ap aq au av bl bm bp bq bu bv c d i := z_RnN9 (z_yL h)
theorem z_RnCH (h : z_in 2 2147483647 i) : z_RnC gl gm gp gq gu gv gl gm gp gq gu gv al am ap aq au av bl bm bp bq bu bv c d i := z_RnN9 (z_yH h)
theorem z_RnK09 {X A B : z_NT} (h : i = 0) (hc : c = 0) : z_Rn X X A B c d i := Or.inr (Or.inr ⟨fun q => by rw [hc] at q; exact absurd q.2 (by decide), fun q => by rw [h] at q; exact absurd q.1 (by decide), rfl⟩)
theorem z_RnK19 {X A B : z_NT} (h : i = 1) (hd : d = 0) : z_Rn X X A B c d i := Or.inr (Or.inr ⟨fun q => by rw [h] at q; exact absurd q.1 (by decide), fun q => by rw [hd] at q; exact absurd q.2 (by decide), rfl⟩)
theorem z_RnCK0 (h : z_in 0 0 i) (hc : c = 0) : z_RnC gl gm gp gq gu gv gl gm gp gq gu gv al am ap aq au av bl bm bp bq bu bv c d i := z_RnK09 (z_y0' h) hc
theorem z_RnCK1 (h : z_in 1 1 i) (hd : d = 0) : z_RnC gl gm gp gq gu gv gl gm gp gq gu gv al am ap aq au av bl bm bp bq bu bv c d i := z_RnK19 (z_y1' h) hd
theorem z_RnCX {A B G : z_NT} (h : z_RnC xl xm xp xq xu xv gl gm gp gq gu gv al am ap aq au av bl bm bp bq bu bv c d i) (e0 : z_n3 gl gm gp gq gu gv = G) (e1 : z_n3 al am ap aq au av = A) (e2 : z_n3 bl bm bp bq bu bv = B) : z_Rn (z_n3 xl xm xp xq xu xv) G A B c d i := by
  rw [← e1, ← e2, ← e0]
  exact h
end
def z_SnC (r : Int32) (f : Nat → Int32) (t : Int32) (cl : Nat → Int64) (nl : Int32) (cp : Nat → Int64) (np : Int32) (cu : Nat → Int64) (nu : Int32) : Prop := z_Sn r f t (z_ls cl nl) (z_ls cu nu)
def z_SN (r : Int32) (f : Nat → Int32) (t : Int32) (N : z_NT) : Prop := z_Sn r f t N.1 N.2.2
theorem z_SNE {r r' t : Int32} {f : Nat → Int32} {N : z_NT} (h : z_SN r f t N) (h' : z_SN r' f t N) : r = r' := z_SnE h h'
theorem z_SnCX {r t nl np nu : Int32} {f : Nat → Int32} {cl cp cu : Nat → Int64} {N : z_NT} (h : z_SnC r f t cl nl cp np cu nu) (e : z_n3 cl nl cp np cu nu = N) : z_SN r f t N := by
  rw [← e]
  exact h
noncomputable def z_fAc (f : Nat → Int32) (t m : Int32) (P U : List Int64) (a : Int32) : (Int32 × Int32) ⊕ Int32 := z_if (z_wx f t m a = 7) (z_bd (z_fPk f t m P (z_nxt f t m a)) (fun q => .inr q.2)) (z_if (z_wx f t m a = 8 ∨ z_wx f t m a = 9) (z_bd (z_fPk f t m U (z_nxt f t m a)) (fun q => .inr q.2)) (.inl (1, a)))
noncomputable def z_fBl (f : Nat → Int32) (t m : Int32) (P Q U : List Int64) (l a : Int32) : (Int32 × Int32) ⊕ Int32 := z_if (z_wx f t m a = 10) (z_if (40 ≤ l.toInt) (.inl (4, a)) (z_bd (z_fPk f t m P (z_nxt f t m a)) (fun q => .inr q.2))) (z_if (z_wx f t m a = 11) (z_if (40 ≤ l.toInt) (.inl (4, a)) (z_bd (z_fNu f t m 1 60 (z_nxt f t m a)) (fun q => .inr q.2))) (z_bd (z_fKn f t m Q a) (fun _ => z_if (40 ≤ l.toInt) (.inl (4, a)) (z_fAc f t m P U (z_nxt f t m a)))))
noncomputable def z_fBt (f : Nat → Int32) (t m : Int32) (P Q U : List Int64) (x : Int32 × Int32) : (Int32 × Int32) ⊕ (Int32 × Int32) := z_bd (z_fBl f t m P Q U x.1 x.2) (fun b => z_bd (z_fSg f t m 59 b) (fun c => .inr (x.1 + 1, c)))
def z_fBk (f : Nat → Int32) (t : Int32) (N : z_NT) (r : (Int32 × Int32) ⊕ ((Int32 × Int32) × Nat)) : Prop := ∃ a0 : Int32, 0 ≤ a0.toInt ∧ z_Tx f t.toInt.toNat (400 : Int32).toInt.toNat 0 a0.toInt.toNat ∧ z_ito (fun x : Int32 × Int32 => z_TE t 400 x.2) (z_fBt f t 400 N.1 N.2.1 N.2.2) (0, a0) r
theorem z_fBkE {f : Nat → Int32} {t : Int32} {N : z_NT} {r r' : (Int32 × Int32) ⊕ ((Int32 × Int32) × Nat)} (h : z_fBk f t N r) (h' : z_fBk f t N r') : r = r' := by
  obtain ⟨a, p, q, s⟩ := h
  obtain ⟨b, p', q', s'⟩ := h'
  have e := z_TxE q q'
  have e2 : a = b := Int32.toInt_inj.mp (by omega)
  subst e2
  exact z_itoE s s'
def z_Ft (f : Nat → Int32) (t F : Int32) : Prop := (F = 0 ∧ ∃ (S : z_TW) (n : Nat), z_fT0 f t 900 (.inr (S, n))) ∨ ∃ G : Int32, z_fT0 f t 900 (.inl (F, G))
theorem z_FtE {f : Nat → Int32} {t F F' : Int32} (h : z_Ft f t F) (h' : z_Ft f t F') : F = F' := by
  rcases h with ⟨e, S, n, q⟩ | ⟨G, q⟩ <;> rcases h' with ⟨e', S', n', q'⟩ | ⟨G', q'⟩
  · exact e.trans e'.symm
  · exact absurd (z_fT0E q q') (by intro e; cases e)
  · exact absurd (z_fT0E q q') (by intro e; cases e)
  · exact congrArg Prod.fst (Sum.inl.inj (z_fT0E q q'))
def z_Fs (f : Nat → Int32) (t : Int32) (N : z_NT) (F : Int32) : Prop := (F = 0 ∧ ∃ y : (z_SX × Int32) × Nat, z_fSe f t N.1 N.2.2 (.inr y)) ∨ ∃ G : Int32, z_fSe f t N.1 N.2.2 (.inl (F, G))
theorem z_FsE {f : Nat → Int32} {t F F' : Int32} {N : z_NT} (h : z_Fs f t N F) (h' : z_Fs f t N F') : F = F' := by
  rcases h with ⟨e, y, q⟩ | ⟨G, q⟩ <;> rcases h' with ⟨e', y', q'⟩ | ⟨G', q'⟩
  · exact e.trans e'.symm
  · exact absurd (z_fSeE q q') (by intro e; cases e)
  · exact absurd (z_fSeE q q') (by intro e; cases e)
  · exact congrArg Prod.fst (Sum.inl.inj (z_fSeE q q'))
def z_Fb (i : Int32) (f : Nat → Int32) (t : Int32) (N : z_NT) (F F0 : Int32) : Prop := (¬ z_in 0 1 i ∧ F = F0) ∨ (z_in 0 1 i ∧ ((F = 0 ∧ ∃ y : (Int32 × Int32) × Nat, z_fBk f t N (.inr y)) ∨ ∃ G : Int32, z_fBk f t N (.inl (F, G))))
theorem z_FbE {i : Int32} {f : Nat → Int32} {t F F' F0 : Int32} {N : z_NT} (h : z_Fb i f t N F F0) (h' : z_Fb i f t N F' F0) : F = F' := by
  rcases h with ⟨a, e⟩ | ⟨a, h⟩ <;> rcases h' with ⟨b, e'⟩ | ⟨b, h'⟩
  · exact e.trans e'.symm
  · exact absurd b a
  · exact absurd a b
  · rcases h with ⟨e, y, q⟩ | ⟨G, q⟩ <;> rcases h' with ⟨e', y', q'⟩ | ⟨G', q'⟩
    · exact e.trans e'.symm
    · exact absurd (z_fBkE q q') (by intro e; cases e)
    · exact absurd (z_fBkE q q') (by intro e; cases e)
    · exact congrArg Prod.fst (Sum.inl.inj (z_fBkE q q'))
