/-! the contracts' common form: a world of cells and the constants of Word, before and behind a method -/
abbrev z_E : String := "FuneralUmbrellas$Word"
abbrev z_d : String := "LFuneralUmbrellas$Word;"
def z_nm : List String := ["OTHER", "PLACE", "PERSON", "HEEDS", "SORROW", "BROLLY", "FAR", "GOES", "TAKES", "LEAVES", "FUNERAL", "DAY", "OR", "AND", "NOT", "ALONE", "MEANT", "AT", "WITH", "AHEAD", "WEPT", "NUMBER"]
abbrev z_T : Type := List (ClassId × FieldType)
abbrev z_dA : String := "[LFuneralUmbrellas$Word;"
def z_cds : List Int64 := [0, 17171557, 542723566, 8557715, 653871607, 86487449, 6194, 244915, 21015731, 407951539, 7161956396, 4153, 498, 1476, 14836, 1457605, 13796820, 52, 763528, 1315876, 759316, 492210354]
/-- the row of all constants of Word, and their codes -/
def z_AL (ad : Nat → Nat) (A : Nat → Prop) (U : State) (H : Heap) : Prop := ∃ aA : Nat, va_Z z_E "ALL" z_dA (.ref aA) A U H ∧ va_T (.object z_E) aA 22 (fun j => .ref (ad j)) A U H ∧ va_Ef 22 z_E "code" "J" (fun i => .long (z_cds.getD i 0)) ad A U H
theorem z_AL.moved {ad : Nat → Nat} {A : Nat → Prop} {u U : State} {H : Heap} (hvm : u.vm.Alike U.vm) (h : z_AL ad A u H) : z_AL ad A U H := by
  obtain ⟨aA, h1, h2, h3⟩ := h
  exact ⟨aA, va_Z.moved hvm h1, va_T.moved hvm h2, va_Ef.moved hvm h3⟩
theorem z_AL.kept {ad : Nat → Nat} {A : Nat → Prop} {U : State} {H H1 : Heap} (h : z_AL ad A U H) (hq : ∀ a : Nat, a < H.size → ¬ A a → H1[a]? = H[a]?) : z_AL ad A U H1 := by
  obtain ⟨aA, h1, h2, h3⟩ := h
  exact ⟨aA, h1.kept hq, h2.kept hq, h3.kept hq⟩
theorem z_AL.narrow {ad : Nat → Nat} {A B : Nat → Prop} {U : State} {H : Heap} (h : z_AL ad A U H) (hAB : ∀ q, B q → A q) : z_AL ad B U H := by
  obtain ⟨aA, h1, h2, h3⟩ := h
  exact ⟨aA, h1.narrow hAB, h2.narrow hAB, h3.narrow hAB⟩
def z_sl : List Nat := [8, 8, 4, 6]
/-- the texts of tags, and two statics of the JDK -/
def z_ST (ad : Nat → Nat) (A : Nat → Prop) (U : State) (H : Heap) : Prop := (∀ i, i < 4 → va_O "java/lang/String" (ad (100 + i)) A U H ∧ va_OF "java/lang/String" "coder" "B" (.int 0) (ad (100 + i)) A U H ∧ va_OF "java/lang/String" "value" "[B" (.ref (ad (200 + i))) (ad (100 + i)) A U H ∧ ∃ b : Nat → Int32, va_T .byte (ad (200 + i)) (z_sl.getD i 0) (fun j => .int (b j)) A U H) ∧ va_Z "java/lang/String" "COMPACT_STRINGS" "Z" (.int 1) A U H ∧ va_Zq "jdk/internal/util/Preconditions" "SIOOBE_FORMATTER" "Ljava/util/function/BiFunction;" A U H
theorem z_ST.moved {ad : Nat → Nat} {A : Nat → Prop} {u U : State} {H : Heap} (hvm : u.vm.Alike U.vm) (h : z_ST ad A u H) : z_ST ad A U H :=
  ⟨fun i hi => ⟨va_O.moved hvm (h.1 i hi).1, va_OF.moved hvm (h.1 i hi).2.1, va_OF.moved hvm (h.1 i hi).2.2.1, (h.1 i hi).2.2.2.elim fun b hb => ⟨b, va_T.moved hvm hb⟩⟩, va_Z.moved hvm h.2.1, va_Zq.moved hvm h.2.2⟩
theorem z_ST.kept {ad : Nat → Nat} {A : Nat → Prop} {U : State} {H H1 : Heap} (h : z_ST ad A U H) (hq : ∀ a : Nat, a < H.size → ¬ A a → H1[a]? = H[a]?) : z_ST ad A U H1 :=
  ⟨fun i hi => ⟨(h.1 i hi).1.kept hq, (h.1 i hi).2.1.kept hq, (h.1 i hi).2.2.1.kept hq, (h.1 i hi).2.2.2.elim fun b hb => ⟨b, hb.kept hq⟩⟩, h.2.1.kept hq, h.2.2.kept hq⟩
theorem z_ST.narrow {ad : Nat → Nat} {A B : Nat → Prop} {U : State} {H : Heap} (h : z_ST ad A U H) (hAB : ∀ q, B q → A q) : z_ST ad B U H :=
  ⟨fun i hi => ⟨(h.1 i hi).1.narrow hAB, (h.1 i hi).2.1.narrow hAB, (h.1 i hi).2.2.1.narrow hAB, (h.1 i hi).2.2.2.elim fun b hb => ⟨b, hb.narrow hAB⟩⟩, h.2.1.narrow hAB, h.2.2.narrow hAB⟩
def z_W (ad : Nat → Nat) (A : Nat → Prop) (U : State) (H : Heap) : Prop := va_En z_E z_d z_nm [] ad A U H ∧ z_AL ad A U H ∧ z_ST ad A U H
theorem z_W.moved {ad : Nat → Nat} {A : Nat → Prop} {u U : State} {H : Heap} (hvm : u.vm.Alike U.vm) (h : z_W ad A u H) : z_W ad A U H := ⟨va_En.moved hvm h.1, z_AL.moved hvm h.2.1, z_ST.moved hvm h.2.2⟩
theorem z_W.kept {ad : Nat → Nat} {A : Nat → Prop} {U : State} {H H1 : Heap} (h : z_W ad A U H) (hq : ∀ a : Nat, a < H.size → ¬ A a → H1[a]? = H[a]?) : z_W ad A U H1 := ⟨h.1.kept hq, h.2.1.kept hq, h.2.2.kept hq⟩
theorem z_W.narrow {ad : Nat → Nat} {A B : Nat → Prop} {U : State} {H : Heap} (h : z_W ad A U H) (hAB : ∀ q, B q → A q) : z_W ad B U H := ⟨h.1.narrow hAB, h.2.1.narrow hAB, h.2.2.narrow hAB⟩
/-- links of a nest: private members of a class nested in the same one -/
def z_nF : List (String × Nat × String × String × String) := [(RX1, 27, "FuneralUmbrellas$Scene", "town", "LFuneralUmbrellas$Town;"), (RX3, 44, "FuneralUmbrellas$Scene", "town", "LFuneralUmbrellas$Town;"), (RX5, 158, "FuneralUmbrellas$Scene", "town", "LFuneralUmbrellas$Town;")]
def z_nM : List (String × Nat × MethodName) := [(RX11, 29, yX10_init), (RX11, 76, yX1_init), (RX11, 83, yX0_init), (RX10, 27, yX5_init), (RX10, 9, yX8_init)]
def z_si : List Nat := [358, 360, 365, 367]
def z_sx : List String := [" is open", " is shut", " at ", " with "]
def z_O (ad : Nat → Nat) (U : State) : Prop := (va_AO "FuneralUmbrellas$Word" U ∧ va_AO "FuneralUmbrellas$Scene" U ∧ va_AO "FuneralUmbrellas$World" U ∧ ∀ i, i < 4 → vk_R RX11 (z_si.getD i 0) (z_sx.getD i "") (ad (100 + i)) U) ∧ (∀ q ∈ z_nF, va_Nw (.fieldLinkNest q.1 q.2.1 q.2.2.1 q.2.2.2.1 q.2.2.2.2 "FuneralUmbrellas") U) ∧ ∀ q ∈ z_nM, va_Nw (.methodLinkNest q.1 q.2.1 q.2.2 "FuneralUmbrellas") U
theorem z_O.same {ad : Nat → Nat} {u U : State} (hvm : u.vm = U.vm) (h : z_O ad u) : z_O ad U := by
  have ha : u.vm.Alike U.vm := hvm ▸ Vm.Alike.refl u.vm
  exact ⟨⟨h.1.1.moved ha, h.1.2.1.moved ha, h.1.2.2.1.moved ha, fun i hi => vk_R.same hvm.symm (h.1.2.2.2 i hi)⟩, fun q hq => va_Nw.same rfl hvm (h.2.1 q hq), fun q hq => va_Nw.same rfl hvm (h.2.2 q hq)⟩
theorem z_O.warm {ad : Nat → Nat} {s U : State} (hW : s.WarmedH U.vm) (h : z_O ad s) : z_O ad U := ⟨⟨h.1.1.moved hW.alike, h.1.2.1.moved hW.alike, h.1.2.2.1.moved hW.alike, fun i hi => vk_R.warm hW (h.1.2.2.2 i hi)⟩, fun q hq => va_Nw.warmF hW (h.2.1 q hq), fun q hq => va_Nw.warmM hW (h.2.2 q hq)⟩
/-- a contract's start -/
def z_B (D : va_G) (ad : Nat → Nat) (sz : Nat) (ws : va_W) (ty : z_T) (U : State) : Prop := U.heap.size = sz ∧ va_P D vwCl ws U.heap ∧ va_K D vwCl ty U ∧ va_D (fun _ => True) ws ∧ z_W ad (va_A ws sz) U U.heap ∧ z_O ad U
/-- a contract's end -/
def z_F (D : va_G) (A : Nat → Prop) (u : va_W × z_T) (t : State) : Prop := va_P D vwCl u.1 t.heap ∧ va_K D vwCl u.2 t ∧ va_D A u.1
abbrev z_Mi (l : Launch) (y : MethodName) (ws : List Cond) (rm : Room) (D : va_G) (ad : Nat → Nat) (av : List Value) (w0 : va_W) (t0 : z_T) (mc ms : Nat) (post : Int32 → va_W × z_T → Prop) : Prop :=
  ∀ sz : Nat, Met l y ws rm (va_Pc av (z_B D ad sz w0 t0)) (va_Qi post (z_F D (va_A w0 sz)) (va_A w0 sz)) mc ms (va_A w0 sz)
abbrev z_Mv (l : Launch) (y : MethodName) (ws : List Cond) (rm : Room) (D : va_G) (ad : Nat → Nat) (av : List Value) (w0 : va_W) (t0 : z_T) (mc ms : Nat) (post : va_W × z_T → Prop) : Prop :=
  ∀ sz : Nat, Met l y ws rm (va_Pc av (z_B D ad sz w0 t0)) (va_Qv post (z_F D (va_A w0 sz)) (va_A w0 sz)) mc ms (va_A w0 sz)
abbrev z_Mr (l : Launch) (y : MethodName) (ws : List Cond) (rm : Room) (D : va_G) (ad : Nat → Nat) (av : List Value) (w0 : va_W) (t0 : z_T) (mc ms : Nat) (post : Nat × va_W × z_T → Prop) : Prop :=
  ∀ sz : Nat, Met l y ws rm (va_Pc av (z_B D ad sz w0 t0)) (va_Qr post (fun (u : Nat × va_W × z_T) (a : Nat) (t : State) => a = u.1 ∧ z_F D (va_A w0 sz) u.2 t) (va_A w0 sz)) mc ms (va_A w0 sz)
theorem z_pick {α : Type} {f : Nat → Option α} : ∀ {is : List Nat} {w : List α}, is.map f = w.map some → is.filterMap f = w
  | [], [], _ => rfl
  | [], _ :: _, h => by simp at h
  | _ :: _, [], h => by simp at h
  | i :: is, a :: w, h => by
    simp only [List.map_cons, List.cons.injEq] at h
    rw [List.filterMap_cons, h.1]
    simp only [z_pick h.2]
theorem z_blind {av : List Value} {D : va_G} {ad : Nat → Nat} {sz : Nat} {ws : va_W} {ty : z_T} : FrameBlind (va_Pc av (z_B D ad sz ws ty)) := by
  intro a U g mk q
  obtain ⟨q0, q1, qP, qK, qD, qE, qO⟩ := q
  exact ⟨q0, q1, qP, va_K.moved (u := U) (U := U.calling g mk a) (Vm.Alike.refl U.vm) qK, qD, z_W.moved (u := U) (U := U.calling g mk a) (Vm.Alike.refl U.vm) qE, z_O.same (u := U) (U := U.calling g mk a) rfl qO⟩
section
variable {p : Program} {l : Launch} {e : Env} {R : Room} {s : State} {m : MethodId} {args : Array Value} {below : List Frame} {meth : Method} {c : Code} {H : Heap} {locs : List Loc} {cells slots : Nat} {Q : State → Prop}
variable {D : va_G} {ad : Nat → Nat} {wsW w0 wr : va_W} {tys t0 : z_T} {A0 : Nat → Prop}
theorem z_pre {av : List Value} (hP : va_P D vwCl wsW H) (hD : va_D A0 wsW) (hK : va_K D vwCl tys s) (hS : va_S A0 s.heap H locs) (hA : ∀ q, s.heap.size ≤ q → A0 q) (hE : z_W ad A0 s s.heap) (hO : z_O ad s) (isC itC : List Nat) (hC : isC.map (fun i => wsW[i]?) = w0.map some) (hn : va_nd isC = true) (hT : itC.filterMap (fun i => tys[i]?) = t0) :
    ∀ U : State, U.heap = H → s.WarmedH U.vm → va_Pc av (z_B D ad H.size w0 t0) av.toArray U := by
  intro U hU hW
  have hF := va_free (wc := w0) hD hS hA isC hC
  refine ⟨rfl, by rw [hU], ?_, va_K.moved hW.alike (hK.sub itC hT), (hD.sub isC hn hC).weaken (fun _ _ _ _ => trivial), ?_, z_O.warm hW hO⟩
  · rw [hU]; exact hP.sub isC (z_pick hC)
  · rw [hU]; exact z_W.moved hW.alike ((hE.kept hS.2.1).narrow hF)
theorem z_preS {av : List Value} (hP : va_P D vwCl wsW H) (hD : va_D A0 wsW) (hK : va_K D vwCl tys s) (hS : va_S A0 s.heap H locs) (hA : ∀ q, s.heap.size ≤ q → A0 q) (hE : z_W ad A0 s s.heap) (hO : z_O ad s) (isC itC : List Nat) (hC : isC.map (fun i => wsW[i]?) = w0.map some) (hn : va_nd isC = true) (hT : itC.filterMap (fun i => tys[i]?) = t0) :
    PreS s H (va_Pc av (z_B D ad H.size w0 t0)) av := ⟨z_blind, z_pre hP hD hK hS hA hE hO isC itC hC hn hT⟩
theorem z_preV {b : Nat} {As : List Value} {C : String} (hP : va_P D vwCl wsW H) (hD : va_D A0 wsW) (hK : va_K D vwCl tys s) (hS : va_S A0 s.heap H locs) (hA : ∀ q, s.heap.size ≤ q → A0 q) (hE : z_W ad A0 s s.heap) (hO : z_O ad s) (isC itC : List Nat) (hC : isC.map (fun i => wsW[i]?) = w0.map some) (hn : va_nd isC = true) (hT : itC.filterMap (fun i => tys[i]?) = t0)
    (k ci : Nat) {q : vw_C} {fs : List Value} (hc : vwCl[ci]? = some q) (he : wsW[k]? = some (b, .inr (ci, fs))) (hq : q.1 = C) : PreV s H C b (va_Pc (.ref b :: As) (z_B D ad H.size w0 t0)) As :=
  ⟨z_blind, hq ▸ va_recv hK hP hc he, z_pre hP hD hK hS hA hE hO isC itC hC hn hT⟩
theorem z_preE {i : Nat} {As : List Value} (hP : va_P D vwCl wsW H) (hD : va_D A0 wsW) (hK : va_K D vwCl tys s) (hS : va_S A0 s.heap H locs) (hA : ∀ q, s.heap.size ≤ q → A0 q) (hE : z_W ad A0 s s.heap) (hO : z_O ad s) (isC itC : List Nat) (hC : isC.map (fun i => wsW[i]?) = w0.map some) (hn : va_nd isC = true) (hT : itC.filterMap (fun i => tys[i]?) = t0)
    (hi : i < z_nm.length) : PreV s H z_E (ad i) (va_Pc (.ref (ad i) :: As) (z_B D ad H.size w0 t0)) As :=
  ⟨z_blind, va_recvE hE.1 hi hS, z_pre hP hD hK hS hA hE hO isC itC hC hn hT⟩
variable {mc ms pc : Nat} {ls : Array Slot} {st0 rest : List Value} {a : Array Value}
theorem z_calli {post : Int32 → va_W × z_T → Prop}
    (hr : va_Run p l e R s m args below meth c H locs cells slots mc ms (F0 m pc ls st0) rest (va_Qi post (z_F D (va_A w0 H.size)) (va_A w0 H.size) a) (va_A w0 H.size))
    (hP : va_P D vwCl wsW H) (hD : va_D A0 wsW) (hK : va_K D vwCl tys s) (hS : va_S A0 s.heap H locs) (hA : ∀ q, s.heap.size ≤ q → A0 q) (isC isR : List Nat) (hC : isC.map (fun i => wsW[i]?) = w0.map some) (hR : isR.map (fun i => wsW[i]?) = wr.map some) (hnR : va_nd isR = true) (hdis : ∀ i ∈ isR, i ∉ isC)
    (kk : ∀ (r : Int32) (u : va_W × z_T) (H1 : Heap) (locs1 : List Loc), post r u → va_P D vwCl (wr ++ u.1) H1 → va_D A0 (wr ++ u.1) → va_K D vwCl (tys ++ u.2) s → va_S A0 s.heap H1 locs1 → W p l e R s m args below meth c H1 locs1 (cells + mc) (slots + ms) Q (F0 m (pc + 3) ls (.int r :: rest))) :
    W p l e R s m args below meth c H locs cells slots Q (F0 m pc ls st0) := by
  have hF := va_free (wc := w0) hD hS hA isC hC
  refine va_calli hr hS (fun q _ h => hF q h) hF (fun r u t H1 locs1 ht hvm hw hB hz1 hk1 hS1 => ?_)
  obtain ⟨hP1, hK1, hD1⟩ := hB
  rw [ht] at hP1
  obtain ⟨hP2, hD2⟩ := va_join hP hD isC isR hC hR hnR hdis hk1 hF hP1 hD1
  exact kk r u H1 locs1 hw hP2 hD2 (hK.app (va_K.moved hvm.symm hK1)) hS1
theorem z_callv {post : va_W × z_T → Prop}
    (hr : va_Run p l e R s m args below meth c H locs cells slots mc ms (F0 m pc ls st0) rest (va_Qv post (z_F D (va_A w0 H.size)) (va_A w0 H.size) a) (va_A w0 H.size))
    (hP : va_P D vwCl wsW H) (hD : va_D A0 wsW) (hK : va_K D vwCl tys s) (hS : va_S A0 s.heap H locs) (hA : ∀ q, s.heap.size ≤ q → A0 q) (isC isR : List Nat) (hC : isC.map (fun i => wsW[i]?) = w0.map some) (hR : isR.map (fun i => wsW[i]?) = wr.map some) (hnR : va_nd isR = true) (hdis : ∀ i ∈ isR, i ∉ isC)
    (kk : ∀ (u : va_W × z_T) (H1 : Heap) (locs1 : List Loc), post u → va_P D vwCl (wr ++ u.1) H1 → va_D A0 (wr ++ u.1) → va_K D vwCl (tys ++ u.2) s → va_S A0 s.heap H1 locs1 → W p l e R s m args below meth c H1 locs1 (cells + mc) (slots + ms) Q (F0 m (pc + 3) ls rest)) :
    W p l e R s m args below meth c H locs cells slots Q (F0 m pc ls st0) := by
  have hF := va_free (wc := w0) hD hS hA isC hC
  refine va_callv hr hS (fun q _ h => hF q h) hF (fun u t H1 locs1 ht hvm hw hB hz1 hk1 hS1 => ?_)
  obtain ⟨hP1, hK1, hD1⟩ := hB
  rw [ht] at hP1
  obtain ⟨hP2, hD2⟩ := va_join hP hD isC isR hC hR hnR hdis hk1 hF hP1 hD1
  exact kk u H1 locs1 hw hP2 hD2 (hK.app (va_K.moved hvm.symm hK1)) hS1
theorem z_callr {post : Nat × va_W × z_T → Prop}
    (hr : va_Run p l e R s m args below meth c H locs cells slots mc ms (F0 m pc ls st0) rest (va_Qr post (fun (u : Nat × va_W × z_T) (a : Nat) (t : State) => a = u.1 ∧ z_F D (va_A w0 H.size) u.2 t) (va_A w0 H.size) a) (va_A w0 H.size))
    (hP : va_P D vwCl wsW H) (hD : va_D A0 wsW) (hK : va_K D vwCl tys s) (hS : va_S A0 s.heap H locs) (hA : ∀ q, s.heap.size ≤ q → A0 q) (isC isR : List Nat) (hC : isC.map (fun i => wsW[i]?) = w0.map some) (hR : isR.map (fun i => wsW[i]?) = wr.map some) (hnR : va_nd isR = true) (hdis : ∀ i ∈ isR, i ∉ isC)
    (kk : ∀ (u : Nat × va_W × z_T) (H1 : Heap) (locs1 : List Loc), post u → va_P D vwCl (wr ++ u.2.1) H1 → va_D A0 (wr ++ u.2.1) → va_K D vwCl (tys ++ u.2.2) s → va_S A0 s.heap H1 locs1 → W p l e R s m args below meth c H1 locs1 (cells + mc) (slots + ms) Q (F0 m (pc + 3) ls (.ref u.1 :: rest))) :
    W p l e R s m args below meth c H locs cells slots Q (F0 m pc ls st0) := by
  have hF := va_free (wc := w0) hD hS hA isC hC
  refine va_callr hr hS (fun q _ h => hF q h) hF (fun u ra t H1 locs1 ht hvm hw hB hz1 hk1 hS1 => ?_)
  obtain ⟨rfl, hP1, hK1, hD1⟩ := hB
  rw [ht] at hP1
  obtain ⟨hP2, hD2⟩ := va_join hP hD isC isR hC hR hnR hdis hk1 hF hP1 hD1
  exact kk u H1 locs1 hw hP2 hD2 (hK.app (va_K.moved hvm.symm hK1)) hS1
end
section
variable {l : Launch} {y : MethodName} {ws ws' : List Cond} {rm : Room} {D : va_G} {ad : Nat → Nat} {av : List Value} {w0 : va_W} {t0 : z_T} {mc ms maxL : Nat} {cc : ByteArray}
theorem z_ofI {rt : FieldType} {post : Int32 → va_W × z_T → Prop} (hy : plainName y.cls = true) (hw : ws = Cond.code y cc maxL (some rt) :: ws') (hlen : (lg_sl av).length ≤ maxL)
    (body : ∀ (p : Program) (e : Env) (s : State) (m : MethodId) (below : List Frame) (meth : Method) (c : Code) (Q : State → Prop) (A : Nat → Prop) (ls : Array Slot), p.tables.exec = Jvm.exec → c.code = cc → c.maxLocals = maxL → s.vm.findClass y.cls = some m.cls → (∀ w ∈ ws, w.before av.toArray s = true) → meth.name = y.name →
      va_K D vwCl t0 s → va_P D vwCl w0 s.heap → va_D A w0 → (∀ q, s.heap.size ≤ q → A q) → z_W ad A s s.heap → z_O ad s → va_S A s.heap s.heap [] → lv_has ls maxL (lv_args 0 av) →
      (∀ (v : Int32) (u : va_W × z_T) (pc : Nat) (ls : Array Slot) (H : Heap) (locs : List Loc), decode cc pc = .ok (.ireturn, 1) → narrow rt (.int v) = .int v → post v u → va_P D vwCl u.1 H → va_K D vwCl u.2 s → va_D A u.1 → va_S A s.heap H locs → W p l e rm s m av.toArray below meth c H locs mc ms Q (F0 m pc ls [.int v])) →
      W p l e rm s m av.toArray below meth c s.heap [] 0 0 Q (F0 m 0 ls [])) : z_Mi l y ws rm D ad av w0 t0 mc ms post := by
  intro sz
  refine Met.ofW (cc := cc) (maxL := maxL) (ret := some rt) hy hw ?_
  intro p e s m args below meth c s₁ B hml hv
  obtain ⟨rfl, hsz, hP, hK, hD0, hE, hO⟩ := hv
  subst hsz
  have hl := lv_entry av (n := maxL) hlen
  rw [lg_entry_eq]
  refine body p e s m below meth c _ (va_A w0 s.heap.size) _ B.exec B.bytes hml (findClass_of_methodNamed B.named) (atoms_spec (ws := ws) B.pre) (name_of_methodNamed B.named B.method).1 hK hP hD0.self (fun q h => Or.inr h) hE hO va_S.rf hl ?_
  intro v u pc ls H locs hd hn hp hP1 hK1 hD1 hS
  exact W.zret B.exec B.bytes B.returns hn (fun t1 ht hW => ⟨⟨v, u, rfl, hp, by rw [ht]; exact hP1, va_K.moved hW.alike hK1, hD1⟩, hS.F ht⟩) hS.2.2 hd B.notSynchronized
theorem z_ofV {post : va_W × z_T → Prop} (hy : plainName y.cls = true) (hw : ws = Cond.code y cc maxL none :: ws') (hlen : (lg_sl av).length ≤ maxL)
    (body : ∀ (p : Program) (e : Env) (s : State) (m : MethodId) (below : List Frame) (meth : Method) (c : Code) (Q : State → Prop) (A : Nat → Prop) (ls : Array Slot), p.tables.exec = Jvm.exec → c.code = cc → c.maxLocals = maxL → s.vm.findClass y.cls = some m.cls → (∀ w ∈ ws, w.before av.toArray s = true) → meth.name = y.name →
      va_K D vwCl t0 s → va_P D vwCl w0 s.heap → va_D A w0 → (∀ q, s.heap.size ≤ q → A q) → z_W ad A s s.heap → z_O ad s → va_S A s.heap s.heap [] → lv_has ls maxL (lv_args 0 av) →
      (∀ (u : va_W × z_T) (pc : Nat) (ls : Array Slot) (H : Heap) (locs : List Loc), decode cc pc = .ok (.return_, 1) → post u → va_P D vwCl u.1 H → va_K D vwCl u.2 s → va_D A u.1 → va_S A s.heap H locs → W p l e rm s m av.toArray below meth c H locs mc ms Q (F0 m pc ls [])) →
      W p l e rm s m av.toArray below meth c s.heap [] 0 0 Q (F0 m 0 ls [])) : z_Mv l y ws rm D ad av w0 t0 mc ms post := by
  intro sz
  refine Met.ofW (cc := cc) (maxL := maxL) (ret := none) hy hw ?_
  intro p e s m args below meth c s₁ B hml hv
  obtain ⟨rfl, hsz, hP, hK, hD0, hE, hO⟩ := hv
  subst hsz
  have hl := lv_entry av (n := maxL) hlen
  rw [lg_entry_eq]
  refine body p e s m below meth c _ (va_A w0 s.heap.size) _ B.exec B.bytes hml (findClass_of_methodNamed B.named) (atoms_spec (ws := ws) B.pre) (name_of_methodNamed B.named B.method).1 hK hP hD0.self (fun q h => Or.inr h) hE hO va_S.rf hl ?_
  intro u pc ls H locs hd hp hP1 hK1 hD1 hS
  exact W.vret B.exec B.bytes B.returns (fun t1 ht hW => ⟨⟨u, rfl, hp, by rw [ht]; exact hP1, va_K.moved hW.alike hK1, hD1⟩, hS.F ht⟩) hS.2.2 hd B.notSynchronized
theorem z_ofR {C : String} {post : Nat × va_W × z_T → Prop} (hy : plainName y.cls = true) (hw : ws = Cond.code y cc maxL (some (.object C)) :: ws') (hlen : (lg_sl av).length ≤ maxL)
    (body : ∀ (p : Program) (e : Env) (s : State) (m : MethodId) (below : List Frame) (meth : Method) (c : Code) (Q : State → Prop) (A : Nat → Prop) (ls : Array Slot), p.tables.exec = Jvm.exec → c.code = cc → c.maxLocals = maxL → s.vm.findClass y.cls = some m.cls → (∀ w ∈ ws, w.before av.toArray s = true) → meth.name = y.name →
      va_K D vwCl t0 s → va_P D vwCl w0 s.heap → va_D A w0 → (∀ q, s.heap.size ≤ q → A q) → z_W ad A s s.heap → z_O ad s → va_S A s.heap s.heap [] → lv_has ls maxL (lv_args 0 av) →
      (∀ (u : Nat × va_W × z_T) (pc : Nat) (ls : Array Slot) (H : Heap) (locs : List Loc), decode cc pc = .ok (.areturn, 1) → post u → va_P D vwCl u.2.1 H → va_K D vwCl u.2.2 s → va_D A u.2.1 → va_S A s.heap H locs → W p l e rm s m av.toArray below meth c H locs mc ms Q (F0 m pc ls [.ref u.1])) →
      W p l e rm s m av.toArray below meth c s.heap [] 0 0 Q (F0 m 0 ls [])) : z_Mr l y ws rm D ad av w0 t0 mc ms post := by
  intro sz
  refine Met.ofW (cc := cc) (maxL := maxL) (ret := some (.object C)) hy hw ?_
  intro p e s m args below meth c s₁ B hml hv
  obtain ⟨rfl, hsz, hP, hK, hD0, hE, hO⟩ := hv
  subst hsz
  have hl := lv_entry av (n := maxL) hlen
  rw [lg_entry_eq]
  refine body p e s m below meth c _ (va_A w0 s.heap.size) _ B.exec B.bytes hml (findClass_of_methodNamed B.named) (atoms_spec (ws := ws) B.pre) (name_of_methodNamed B.named B.method).1 hK hP hD0.self (fun q h => Or.inr h) hE hO va_S.rf hl ?_
  intro u pc ls H locs hd hp hP1 hK1 hD1 hS
  exact W.aret B.exec B.bytes B.returns (Or.inl ⟨_, rfl⟩) (Or.inr ⟨_, rfl⟩) (fun t1 ht hW => ⟨⟨u, u.1, rfl, hp, rfl, by rw [ht]; exact hP1, va_K.moved hW.alike hK1, hD1⟩, hS.F ht⟩) hS.2.2 hd B.notSynchronized
end
theorem z_sw {x M : Int32} {n : Nat} (hM : M.toInt = n) (h : ∀ j : Nat, j ≤ n → x = nI j → False) : x.toInt < 0 ∨ (n : Int) < x.toInt := by
  rcases Int.lt_or_le x.toInt 0 with h0 | h0
  · exact Or.inl h0
  · rcases Int.lt_or_le (n : Int) x.toInt with h1 | h1
    · exact Or.inr h1
    · exfalso
      obtain ⟨j, hj, ej⟩ := nI_of2 (x := x) hM (fun q => by have := Int32.lt_iff_toInt_lt.mp q; simp at this; omega) (Int32.le_iff_toInt_le.mpr (by rw [hM]; exact h1))
      exact h j hj ej
