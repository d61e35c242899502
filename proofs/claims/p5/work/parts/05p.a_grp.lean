/-! calls whose cells stand last in the world: no places to tell -/
theorem z_nd : ∀ {l : List Nat}, l.Nodup → va_nd l = true
  | [], _ => rfl
  | a :: l, h => by
    rw [List.nodup_cons] at h
    simp only [va_nd, Bool.and_eq_true, decide_eq_true_eq]
    exact ⟨h.1, z_nd h.2⟩
theorem z_ndR (n : Nat) : va_nd (List.range n) = true := z_nd List.nodup_range
theorem z_ndC (n k : Nat) : va_nd ((List.range n).map (fun i => i + k)) = true := z_nd (by
  rw [List.Nodup, List.pairwise_map]
  exact List.Pairwise.imp (fun {a b} h => by omega) (List.pairwise_lt_range (n := n)))
theorem z_ixR (wr w0 : va_W) : (List.range wr.length).map (fun i => (wr ++ w0)[i]?) = wr.map some := by
  refine List.ext_getElem (by simp) (fun i h1 h2 => ?_)
  simp only [List.length_map, List.length_range] at h1
  simp [List.getElem?_append_left h1]
theorem z_ixC (wr w0 : va_W) : ((List.range w0.length).map (fun i => i + wr.length)).map (fun i => (wr ++ w0)[i]?) = w0.map some := by
  refine List.ext_getElem (by simp) (fun i h1 h2 => ?_)
  simp only [List.length_map, List.length_range] at h1
  simp [List.getElem?_append_right, h1]
theorem z_disC (wr w0 : va_W) : ∀ i ∈ List.range wr.length, i ∉ (List.range w0.length).map (fun i => i + wr.length) := by
  intro i hi h
  rw [List.mem_range] at hi
  obtain ⟨j, -, e⟩ := List.mem_map.mp h
  omega
theorem z_ndI : ∀ {l : List Nat}, va_nd l = true → l.Nodup
  | [], _ => List.nodup_nil
  | a :: l, h => by
    simp only [va_nd, Bool.and_eq_true, decide_eq_true_eq] at h
    exact List.nodup_cons.mpr ⟨h.1, z_ndI h.2⟩
theorem zf_Pi {D : va_G} {cl : List vw_C} {ws : va_W} {H : Heap} : va_P D cl ws H ↔ ∀ q ∈ ws, va_at D cl q H :=
  ⟨fun h q hq => (List.mem_iff_getElem?.mp hq).elim fun k hk => h k q hk, fun h k q hk => h q (List.mem_of_getElem? hk)⟩
theorem zf_Di {A : Nat → Prop} {ws : va_W} : va_D A ws ↔ ws.Pairwise (fun p q => p.1 ≠ q.1) ∧ ∀ q ∈ ws, A q.1 := by
  constructor
  · intro h
    refine ⟨List.pairwise_iff_getElem.mpr fun i j hi hj hij e => ?_, fun q hq => (List.mem_iff_getElem?.mp hq).elim fun k hk => h.2 k q hk⟩
    have := h.1 i j _ _ (List.getElem?_eq_getElem hi) (List.getElem?_eq_getElem hj) e
    omega
  · intro h
    refine ⟨fun i j p q hp hq e => ?_, fun k q hk => h.2 q (List.mem_of_getElem? hk)⟩
    obtain ⟨hi, ei⟩ := List.getElem?_eq_some_iff.mp hp
    obtain ⟨hj, ej⟩ := List.getElem?_eq_some_iff.mp hq
    rcases Nat.lt_trichotomy i j with q1 | q1 | q1
    · exact absurd (by rw [ei, ej]; exact e) (List.pairwise_iff_getElem.mp h.1 i j hi hj q1)
    · exact q1
    · exact absurd (by rw [ei, ej]; exact e.symm) (List.pairwise_iff_getElem.mp h.1 j i hj hi q1)
/-- worlds as lists of groups: some of the groups, in another order -/
theorem zf_P {D : va_G} {cl : List vw_C} {gs gs' : List va_W} {H : Heap} (is : List Nat) (h : va_P D cl gs.flatten H) (e : is.filterMap (fun i => gs[i]?) = gs') : va_P D cl gs'.flatten H := by
  subst e
  rw [zf_Pi] at h ⊢
  intro q hq
  obtain ⟨g, hg, hq⟩ := List.mem_flatten.mp hq
  obtain ⟨i, -, hi⟩ := List.mem_filterMap.mp hg
  exact h q (List.mem_flatten.mpr ⟨g, List.mem_of_getElem? hi, hq⟩)
theorem zf_D {A : Nat → Prop} {gs gs' : List va_W} (is : List Nat) (hn : va_nd is = true) (h : va_D A gs.flatten) (e : is.filterMap (fun i => gs[i]?) = gs') : va_D A gs'.flatten := by
  subst e
  rw [zf_Di] at h ⊢
  obtain ⟨h1, h2⟩ := h
  refine ⟨?_, fun q hq => ?_⟩
  · rw [List.pairwise_flatten] at h1 ⊢
    refine ⟨fun g hg => ?_, ?_⟩
    · obtain ⟨i, -, hi⟩ := List.mem_filterMap.mp hg
      exact h1.1 g (List.mem_of_getElem? hi)
    · rw [List.pairwise_filterMap]
      refine List.Pairwise.imp ?_ (z_ndI hn)
      intro i j hij b hb b' hb' x hx y hy
      obtain ⟨hi, ei⟩ := List.getElem?_eq_some_iff.mp hb
      obtain ⟨hj, ej⟩ := List.getElem?_eq_some_iff.mp hb'
      rcases Nat.lt_or_gt_of_ne hij with q | q
      · exact List.pairwise_iff_getElem.mp h1.2 i j hi hj q x (by rw [ei]; exact hx) y (by rw [ej]; exact hy)
      · exact fun e => List.pairwise_iff_getElem.mp h1.2 j i hj hi q y (by rw [ej]; exact hy) x (by rw [ei]; exact hx) e.symm
  · obtain ⟨g, hg, hq⟩ := List.mem_flatten.mp hq
    obtain ⟨i, -, hi⟩ := List.mem_filterMap.mp hg
    exact h2 q (List.mem_flatten.mpr ⟨g, List.mem_of_getElem? hi, hq⟩)
theorem zf_Ps {D : va_G} {cl : List vw_C} {rs gs : List va_W} {H : Heap} (h : va_P D cl (rs ++ gs).flatten H) : va_P D cl (rs.flatten ++ gs.flatten) H := by
  rw [← List.flatten_append]
  exact h
theorem zf_Ds {A : Nat → Prop} {rs gs : List va_W} (h : va_D A (rs ++ gs).flatten) : va_D A (rs.flatten ++ gs.flatten) := by
  rw [← List.flatten_append]
  exact h
theorem zf_Pj {D : va_G} {cl : List vw_C} {rs gs : List va_W} {H : Heap} (h : va_P D cl (rs.flatten ++ gs.flatten) H) : va_P D cl (rs ++ gs).flatten H := by
  rw [List.flatten_append]
  exact h
theorem zf_Dj {A : Nat → Prop} {rs gs : List va_W} (h : va_D A (rs.flatten ++ gs.flatten)) : va_D A (rs ++ gs).flatten := by
  rw [List.flatten_append]
  exact h
section
variable {p : Program} {l : Launch} {e : Env} {R : Room} {s : State} {m : MethodId} {args : Array Value} {below : List Frame} {meth : Method} {c : Code} {H : Heap} {locs : List Loc} {cells slots : Nat} {Q : State → Prop}
variable {D : va_G} {ad : Nat → Nat} {w0 wr : va_W} {tys t0 : z_T} {A0 : Nat → Prop}
theorem z_preSE {av : List Value} (hP : va_P D vwCl (wr ++ w0) H) (hD : va_D A0 (wr ++ w0)) (hK : va_K D vwCl tys s) (hS : va_S A0 s.heap H locs) (hA : ∀ q, s.heap.size ≤ q → A0 q) (hE : z_W ad A0 s s.heap) (hO : z_O ad s) (itC : List Nat) (hT : itC.filterMap (fun i => tys[i]?) = t0) :
    PreS s H (va_Pc av (z_B D ad H.size w0 t0)) av := z_preS hP hD hK hS hA hE hO _ itC (z_ixC wr w0) (z_ndC _ _) hT
theorem z_preVE {b : Nat} {As : List Value} {C : String} (hP : va_P D vwCl (wr ++ w0) H) (hD : va_D A0 (wr ++ w0)) (hK : va_K D vwCl tys s) (hS : va_S A0 s.heap H locs) (hA : ∀ q, s.heap.size ≤ q → A0 q) (hE : z_W ad A0 s s.heap) (hO : z_O ad s) (itC : List Nat) (hT : itC.filterMap (fun i => tys[i]?) = t0)
    (k ci : Nat) {q : vw_C} {fs : List Value} (hc : vwCl[ci]? = some q) (he : w0[k]? = some (b, .inr (ci, fs))) (hq : q.1 = C) : PreV s H C b (va_Pc (.ref b :: As) (z_B D ad H.size w0 t0)) As :=
  z_preV hP hD hK hS hA hE hO _ itC (z_ixC wr w0) (z_ndC _ _) hT (wr.length + k) ci hc (by rw [List.getElem?_append_right (by omega), Nat.add_sub_cancel_left]; exact he) hq
variable {mc ms pc : Nat} {ls : Array Slot} {st0 rest : List Value} {a : Array Value}
theorem z_callvE {post : va_W × z_T → Prop}
    (hr : va_Run p l e R s m args below meth c H locs cells slots mc ms (F0 m pc ls st0) rest (va_Qv post (z_F D (va_A w0 H.size)) (va_A w0 H.size) a) (va_A w0 H.size))
    (hP : va_P D vwCl (wr ++ w0) H) (hD : va_D A0 (wr ++ w0)) (hK : va_K D vwCl tys s) (hS : va_S A0 s.heap H locs) (hA : ∀ q, s.heap.size ≤ q → A0 q)
    (kk : ∀ (u : va_W × z_T) (H1 : Heap) (locs1 : List Loc), post u → va_P D vwCl (wr ++ u.1) H1 → va_D A0 (wr ++ u.1) → va_K D vwCl (tys ++ u.2) s → va_S A0 s.heap H1 locs1 → W p l e R s m args below meth c H1 locs1 (cells + mc) (slots + ms) Q (F0 m (pc + 3) ls rest)) :
    W p l e R s m args below meth c H locs cells slots Q (F0 m pc ls st0) :=
  z_callv hr hP hD hK hS hA _ _ (z_ixC wr w0) (z_ixR wr w0) (z_ndR _) (z_disC wr w0) kk
theorem z_calliE {post : Int32 → va_W × z_T → Prop}
    (hr : va_Run p l e R s m args below meth c H locs cells slots mc ms (F0 m pc ls st0) rest (va_Qi post (z_F D (va_A w0 H.size)) (va_A w0 H.size) a) (va_A w0 H.size))
    (hP : va_P D vwCl (wr ++ w0) H) (hD : va_D A0 (wr ++ w0)) (hK : va_K D vwCl tys s) (hS : va_S A0 s.heap H locs) (hA : ∀ q, s.heap.size ≤ q → A0 q)
    (kk : ∀ (r : Int32) (u : va_W × z_T) (H1 : Heap) (locs1 : List Loc), post r u → va_P D vwCl (wr ++ u.1) H1 → va_D A0 (wr ++ u.1) → va_S A0 s.heap H1 locs1 → W p l e R s m args below meth c H1 locs1 (cells + mc) (slots + ms) Q (F0 m (pc + 3) ls (.int r :: rest))) :
    W p l e R s m args below meth c H locs cells slots Q (F0 m pc ls st0) :=
  z_calli hr hP hD hK hS hA _ _ (z_ixC wr w0) (z_ixR wr w0) (z_ndR _) (z_disC wr w0) (fun r u H1 locs1 hp h1 h2 _ h4 => kk r u H1 locs1 hp h1 h2 h4)
theorem z_callvF {post : va_W × z_T → Prop}
    (hr : va_Run p l e R s m args below meth c H locs cells slots mc ms (F0 m pc ls st0) rest (va_Qv post (z_F D (va_A w0 H.size)) (va_A w0 H.size) a) (va_A w0 H.size))
    (hP : va_P D vwCl (wr ++ w0) H) (hD : va_D A0 (wr ++ w0)) (hK : va_K D vwCl tys s) (hS : va_S A0 s.heap H locs) (hA : ∀ q, s.heap.size ≤ q → A0 q)
    (kk : ∀ (u : va_W × z_T) (H1 : Heap) (locs1 : List Loc), post u → va_P D vwCl (wr ++ u.1) H1 → va_D A0 (wr ++ u.1) → va_S A0 s.heap H1 locs1 → W p l e R s m args below meth c H1 locs1 (cells + mc) (slots + ms) Q (F0 m (pc + 3) ls rest)) :
    W p l e R s m args below meth c H locs cells slots Q (F0 m pc ls st0) :=
  z_callv hr hP hD hK hS hA _ _ (z_ixC wr w0) (z_ixR wr w0) (z_ndR _) (z_disC wr w0) (fun u H1 locs1 hp h1 h2 _ h4 => kk u H1 locs1 hp h1 h2 h4)
end
