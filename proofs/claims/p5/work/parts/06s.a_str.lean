/-! the texts of tags -/
section
variable {p : Program} {l : Launch} {e : Env} {R : Room} {s : State} {m : MethodId} {args : Array Value} {below : List Frame} {meth : Method} {c : Code} {H : Heap} {locs : List Loc} {cells slots : Nat} {Q : State → Prop}
variable {cc : ByteArray} {pc : Nat} {ls : Array Slot} {rest : List Value}
theorem z_ldcSw (hexec : p.tables.exec = Jvm.exec) (hb : c.code = cc) {own tx : String} {index q : Nat} (hown : s.vm.findClass own = some m.cls) (hZ : vk_R own index tx q s) (hdg : decode cc pc = .ok (.ldc_w index, 3))
    (k : W p l e R s m args below meth c H locs cells slots Q (F0 m (pc + 3) ls (.ref q :: rest))) : W p l e R s m args below meth c H locs cells slots Q (F0 m pc ls rest) := by
  intro T hT X
  obtain ⟨t, a1, b1⟩ := k T hT X
  exact ⟨t, X.ldcStringW hexec hown (text := tx) (a := q) hZ.1 hZ.2 (g := F0 m pc ls rest) rfl (by rw [hb]; exact hdg) t a1, b1⟩
variable {D : va_G} {ad : Nat → Nat} {wsW w0 wr : va_W} {tys t0 : z_T} {A0 : Nat → Prop}
theorem z_preT {i : Nat} {As : List Value} (hP : va_P D vwCl wsW H) (hD : va_D A0 wsW) (hK : va_K D vwCl tys s) (hS : va_S A0 s.heap H locs) (hA : ∀ q, s.heap.size ≤ q → A0 q) (hE : z_W ad A0 s s.heap) (hO : z_O ad s) (isC itC : List Nat) (hC : isC.map (fun i => wsW[i]?) = w0.map some) (hn : va_nd isC = true) (hT : itC.filterMap (fun i => tys[i]?) = t0)
    (hi : i < 4) : PreV s H RJ0 (ad (100 + i)) (va_Pc (.ref (ad (100 + i)) :: As) (z_B D ad H.size w0 t0)) As := by
  refine ⟨z_blind, ?_, z_pre hP hD hK hS hA hE hO isC itC hC hn hT⟩
  obtain ⟨cell, h1, h2, h3, -⟩ := (hE.2.2.1 i hi).1.kept hS.2.1
  exact ⟨cell, h1, h2, h3⟩
end
theorem z_narc {x y : Int32} (e : y = (x.toUInt32 % 65536).toInt32) : narrow .char (.int y) = .int y := by
  have h : vp_nar .char y = y := by
    rw [vp_nar_char, e]
    apply Int32.toBitVec_inj.mp
    apply BitVec.eq_of_toNat_eq
    simp
  show Value.int _ = _
  exact congrArg Value.int h
def z_ch (y : Int32) : Prop := narrow .char (.int y) = .int y
theorem z_shr0 {a b : Int} {x y : Int32} (hx : z_in a b x) (hy : z_in 0 0 y) : z_in a b (x >>> (y &&& 31)) := by
  have e : y = 0 := z_eqk hy rfl
  subst e
  simpa using hx
