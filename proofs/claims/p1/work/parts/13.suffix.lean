/-! calls whose cells stand last in the world: no places to tell -/
theorem z_nd : ∀ {l : List Nat}, l.Nodup → va_nd l = true
  | [], _ => rfl
  | a :: l, h => by
    rw [List.nodup_cons] at h
    simp only [va_nd, Bool.and_eq_true, decide_eq_true_eq]
    exact ⟨h.1, z_nd h.2⟩
theorem z_ndR (n : Nat) : va_nd (List.range n) = true := z_nd List.nodup_range
theorem z_ndC (n k : Nat) : va_nd ((List.range n).map (fun i => i + k)) = true := z_nd (by
  rw [List.Nodup, List.pairwise_map]
  exact List.Pairwise.imp (fun {a b} h => by omega) (List.pairwise_lt_range (n := n)))
theorem z_ixR (wr w0 : va_W) : (List.range wr.length).map (fun i => (wr ++ w0)[i]?) = wr.map some := by
  refine List.ext_getElem (by simp) (fun i h1 h2 => ?_)
  simp only [List.length_map, List.length_range] at h1
  simp [List.getElem?_append_left h1]
theorem z_ixC (wr w0 : va_W) : ((List.range w0.length).map (fun i => i + wr.length)).map (fun i => (wr ++ w0)[i]?) = w0.map some := by
  refine List.ext_getElem (by simp) (fun i h1 h2 => ?_)
  simp only [List.length_map, List.length_range] at h1
  simp [List.getElem?_append_right, h1]
theorem z_disC (wr w0 : va_W) : ∀ i ∈ List.range wr.length, i ∉ (List.range w0.length).map (fun i => i + wr.length) := by
  intro i hi h
  rw [List.mem_range] at hi
  obtain ⟨j, -, e⟩ := List.mem_map.mp h
  omega
section
variable {p : Program} {l : Launch} {e : Env} {R : Room} {s : State} {m : MethodId} {args : Array Value} {below : List Frame} {meth : Method} {c : Code} {H : Heap} {locs : List Loc} {cells slots : Nat} {Q : State → Prop}
variable {D : va_G} {ad : Nat → Nat} {w0 wr : va_W} {tys t0 : z_T} {A0 : Nat → Prop}
theorem z_preSE {av : List Value} (hP : va_P D vwCl (wr ++ w0) H) (hD : va_D A0 (wr ++ w0)) (hK : va_K D vwCl tys s) (hS : va_S A0 s.heap H locs) (hA : ∀ q, s.heap.size ≤ q → A0 q) (hE : z_W ad A0 s s.heap) (hO : z_O s) (itC : List Nat) (hT : itC.filterMap (fun i => tys[i]?) = t0) :
    PreS s H (va_Pc av (z_B D ad H.size w0 t0)) av := z_preS hP hD hK hS hA hE hO _ itC (z_ixC wr w0) (z_ndC _ _) hT
variable {mc ms pc : Nat} {ls : Array Slot} {st0 rest : List Value} {a : Array Value}
theorem z_callvE {post : va_W × z_T → Prop}
    (hr : va_Run p l e R s m args below meth c H locs cells slots mc ms (F0 m pc ls st0) rest (va_Qv post (z_F D (va_A w0 H.size)) (va_A w0 H.size) a) (va_A w0 H.size))
    (hP : va_P D vwCl (wr ++ w0) H) (hD : va_D A0 (wr ++ w0)) (hK : va_K D vwCl tys s) (hS : va_S A0 s.heap H locs) (hA : ∀ q, s.heap.size ≤ q → A0 q)
    (kk : ∀ (u : va_W × z_T) (H1 : Heap) (locs1 : List Loc), post u → va_P D vwCl (wr ++ u.1) H1 → va_D A0 (wr ++ u.1) → va_K D vwCl (tys ++ u.2) s → va_S A0 s.heap H1 locs1 → W p l e R s m args below meth c H1 locs1 (cells + mc) (slots + ms) Q (F0 m (pc + 3) ls rest)) :
    W p l e R s m args below meth c H locs cells slots Q (F0 m pc ls st0) :=
  z_callv hr hP hD hK hS hA _ _ (z_ixC wr w0) (z_ixR wr w0) (z_ndR _) (z_disC wr w0) kk
end
