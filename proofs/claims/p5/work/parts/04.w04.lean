theorem dX2_get_0 : decode cX2_get 0 = .ok (.iload_n 1, 1) := by decide +kernel
theorem dX2_get_1 : decode cX2_get 1 = .ok (.ifCond .lt 29, 3) := by decide +kernel
theorem dX2_get_4 : decode cX2_get 4 = .ok (.iload_n 1, 1) := by decide +kernel
theorem dX2_get_5 : decode cX2_get 5 = .ok (.aload_n 0, 1) := by decide +kernel
theorem dX2_get_6 : decode cX2_get 6 = .ok (.getfield 15, 3) := by decide +kernel
theorem dX2_get_9 : decode cX2_get 9 = .ok (.if_icmp .ge 21, 3) := by decide +kernel
theorem dX2_get_12 : decode cX2_get 12 = .ok (.iload_n 1, 1) := by decide +kernel
theorem dX2_get_13 : decode cX2_get 13 = .ok (.aload_n 0, 1) := by decide +kernel
theorem dX2_get_14 : decode cX2_get 14 = .ok (.getfield 9, 3) := by decide +kernel
theorem dX2_get_17 : decode cX2_get 17 = .ok (.arraylength, 1) := by decide +kernel
theorem dX2_get_18 : decode cX2_get 18 = .ok (.if_icmp .ge 12, 3) := by decide +kernel
theorem dX2_get_21 : decode cX2_get 21 = .ok (.aload_n 0, 1) := by decide +kernel
theorem dX2_get_22 : decode cX2_get 22 = .ok (.getfield 9, 3) := by decide +kernel
theorem dX2_get_25 : decode cX2_get 25 = .ok (.iload_n 1, 1) := by decide +kernel
theorem dX2_get_26 : decode cX2_get 26 = .ok (.laload, 1) := by decide +kernel
theorem dX2_get_27 : decode cX2_get 27 = .ok (.goto 4, 3) := by decide +kernel
theorem dX2_get_30 : decode cX2_get 30 = .ok (.lconst 0, 1) := by decide +kernel
theorem dX2_get_31 : decode cX2_get 31 = .ok (.lreturn, 1) := by decide +kernel
theorem dX2_add_0 : decode cX2_add 0 = .ok (.aload_n 0, 1) := by decide +kernel
theorem dX2_add_1 : decode cX2_add 1 = .ok (.invokevirtual 19, 3) := by decide +kernel
theorem dX2_add_4 : decode cX2_add 4 = .ok (.ifCond .ne 23, 3) := by decide +kernel
theorem dX2_add_7 : decode cX2_add 7 = .ok (.aload_n 0, 1) := by decide +kernel
theorem dX2_add_8 : decode cX2_add 8 = .ok (.getfield 9, 3) := by decide +kernel
theorem dX2_add_11 : decode cX2_add 11 = .ok (.aload_n 0, 1) := by decide +kernel
theorem dX2_add_12 : decode cX2_add 12 = .ok (.getfield 15, 3) := by decide +kernel
theorem dX2_add_15 : decode cX2_add 15 = .ok (.lload_n 1, 1) := by decide +kernel
theorem dX2_add_16 : decode cX2_add 16 = .ok (.lastore, 1) := by decide +kernel
theorem dX2_add_17 : decode cX2_add 17 = .ok (.aload_n 0, 1) := by decide +kernel
theorem dX2_add_18 : decode cX2_add 18 = .ok (.dup, 1) := by decide +kernel
theorem dX2_add_19 : decode cX2_add 19 = .ok (.getfield 15, 3) := by decide +kernel
theorem dX2_add_22 : decode cX2_add 22 = .ok (.iconst 1, 1) := by decide +kernel
theorem dX2_add_23 : decode cX2_add 23 = .ok (.iadd, 1) := by decide +kernel
theorem dX2_add_24 : decode cX2_add 24 = .ok (.putfield 15, 3) := by decide +kernel
theorem dX2_add_27 : decode cX2_add 27 = .ok (.return_, 1) := by decide +kernel
theorem dX2_copyFrom_0 : decode cX2_copyFrom 0 = .ok (.aload_n 0, 1) := by decide +kernel
theorem dX2_copyFrom_1 : decode cX2_copyFrom 1 = .ok (.aload_n 1, 1) := by decide +kernel
theorem dX2_copyFrom_2 : decode cX2_copyFrom 2 = .ok (.getfield 15, 3) := by decide +kernel
theorem dX2_copyFrom_5 : decode cX2_copyFrom 5 = .ok (.putfield 15, 3) := by decide +kernel
theorem dX2_copyFrom_8 : decode cX2_copyFrom 8 = .ok (.aload_n 1, 1) := by decide +kernel
theorem dX2_copyFrom_9 : decode cX2_copyFrom 9 = .ok (.getfield 9, 3) := by decide +kernel
theorem dX2_copyFrom_12 : decode cX2_copyFrom 12 = .ok (.iconst 0, 1) := by decide +kernel
theorem dX2_copyFrom_13 : decode cX2_copyFrom 13 = .ok (.aload_n 0, 1) := by decide +kernel
theorem dX2_copyFrom_14 : decode cX2_copyFrom 14 = .ok (.getfield 9, 3) := by decide +kernel
theorem dX2_copyFrom_17 : decode cX2_copyFrom 17 = .ok (.iconst 0, 1) := by decide +kernel
theorem dX2_copyFrom_18 : decode cX2_copyFrom 18 = .ok (.aload_n 0, 1) := by decide +kernel
theorem dX2_copyFrom_19 : decode cX2_copyFrom 19 = .ok (.getfield 9, 3) := by decide +kernel
theorem dX2_copyFrom_22 : decode cX2_copyFrom 22 = .ok (.arraylength, 1) := by decide +kernel
theorem dX2_copyFrom_23 : decode cX2_copyFrom 23 = .ok (.invokestatic 23, 3) := by decide +kernel
theorem dX2_copyFrom_26 : decode cX2_copyFrom 26 = .ok (.return_, 1) := by decide +kernel
theorem dX4_begin_0 : decode cX4_begin 0 = .ok (.aload_n 0, 1) := by decide +kernel
theorem dX4_begin_1 : decode cX4_begin 1 = .ok (.iconst 0, 1) := by decide +kernel
theorem dX4_begin_2 : decode cX4_begin 2 = .ok (.putfield 28, 3) := by decide +kernel
theorem dX4_begin_5 : decode cX4_begin 5 = .ok (.aload_n 0, 1) := by decide +kernel
theorem dX4_begin_6 : decode cX4_begin 6 = .ok (.iconst 0, 1) := by decide +kernel
theorem dX4_begin_7 : decode cX4_begin 7 = .ok (.putfield 32, 3) := by decide +kernel
theorem dX4_begin_10 : decode cX4_begin 10 = .ok (.aload_n 0, 1) := by decide +kernel
theorem dX4_begin_11 : decode cX4_begin 11 = .ok (.iconst 0, 1) := by decide +kernel
theorem dX4_begin_12 : decode cX4_begin 12 = .ok (.putfield 35, 3) := by decide +kernel
theorem dX4_begin_15 : decode cX4_begin 15 = .ok (.iconst 0, 1) := by decide +kernel
theorem dX4_begin_16 : decode cX4_begin 16 = .ok (.istore_n 1, 1) := by decide +kernel
theorem dX4_begin_17 : decode cX4_begin 17 = .ok (.iload_n 1, 1) := by decide +kernel
theorem dX4_begin_18 : decode cX4_begin 18 = .ok (.aload_n 0, 1) := by decide +kernel
theorem dX4_begin_19 : decode cX4_begin 19 = .ok (.getfield 24, 3) := by decide +kernel
theorem dX4_begin_22 : decode cX4_begin 22 = .ok (.getfield 38, 3) := by decide +kernel
theorem dX4_begin_25 : decode cX4_begin 25 = .ok (.getfield 44, 3) := by decide +kernel
theorem dX4_begin_28 : decode cX4_begin 28 = .ok (.if_icmp .ge 24, 3) := by decide +kernel
theorem dX4_begin_31 : decode cX4_begin 31 = .ok (.aload_n 0, 1) := by decide +kernel
theorem dX4_begin_32 : decode cX4_begin 32 = .ok (.getfield 9, 3) := by decide +kernel
theorem dX4_begin_35 : decode cX4_begin 35 = .ok (.iload_n 1, 1) := by decide +kernel
theorem dX4_begin_36 : decode cX4_begin 36 = .ok (.aload_n 0, 1) := by decide +kernel
theorem dX4_begin_37 : decode cX4_begin 37 = .ok (.getfield 24, 3) := by decide +kernel
theorem dX4_begin_40 : decode cX4_begin 40 = .ok (.getfield 49, 3) := by decide +kernel
theorem dX4_begin_43 : decode cX4_begin 43 = .ok (.iload_n 1, 1) := by decide +kernel
theorem dX4_begin_44 : decode cX4_begin 44 = .ok (.iaload, 1) := by decide +kernel
theorem dX4_begin_45 : decode cX4_begin 45 = .ok (.iastore, 1) := by decide +kernel
theorem dX4_begin_46 : decode cX4_begin 46 = .ok (.iinc 1 1, 3) := by decide +kernel
theorem dX4_begin_49 : decode cX4_begin 49 = .ok (.goto (-32), 3) := by decide +kernel
theorem dX4_begin_52 : decode cX4_begin 52 = .ok (.iconst 0, 1) := by decide +kernel
theorem dX4_begin_53 : decode cX4_begin 53 = .ok (.istore_n 1, 1) := by decide +kernel
theorem dX4_begin_54 : decode cX4_begin 54 = .ok (.iload_n 1, 1) := by decide +kernel
theorem dX4_begin_55 : decode cX4_begin 55 = .ok (.aload_n 0, 1) := by decide +kernel
theorem dX4_begin_56 : decode cX4_begin 56 = .ok (.getfield 24, 3) := by decide +kernel
theorem dX4_begin_59 : decode cX4_begin 59 = .ok (.getfield 52, 3) := by decide +kernel
theorem dX4_begin_62 : decode cX4_begin 62 = .ok (.getfield 44, 3) := by decide +kernel
theorem dX4_begin_65 : decode cX4_begin 65 = .ok (.if_icmp .ge 46, 3) := by decide +kernel
theorem dX4_begin_68 : decode cX4_begin 68 = .ok (.aload_n 0, 1) := by decide +kernel
theorem dX4_begin_69 : decode cX4_begin 69 = .ok (.getfield 15, 3) := by decide +kernel
theorem dX4_begin_72 : decode cX4_begin 72 = .ok (.iload_n 1, 1) := by decide +kernel
theorem dX4_begin_73 : decode cX4_begin 73 = .ok (.aload_n 0, 1) := by decide +kernel
theorem dX4_begin_74 : decode cX4_begin 74 = .ok (.getfield 24, 3) := by decide +kernel
theorem dX4_begin_77 : decode cX4_begin 77 = .ok (.getfield 55, 3) := by decide +kernel
theorem dX4_begin_80 : decode cX4_begin 80 = .ok (.iload_n 1, 1) := by decide +kernel
theorem dX4_begin_81 : decode cX4_begin 81 = .ok (.iaload, 1) := by decide +kernel
theorem dX4_begin_82 : decode cX4_begin 82 = .ok (.iastore, 1) := by decide +kernel
theorem dX4_begin_83 : decode cX4_begin 83 = .ok (.aload_n 0, 1) := by decide +kernel
theorem dX4_begin_84 : decode cX4_begin 84 = .ok (.getfield 18, 3) := by decide +kernel
theorem dX4_begin_87 : decode cX4_begin 87 = .ok (.iload_n 1, 1) := by decide +kernel
theorem dX4_begin_88 : decode cX4_begin 88 = .ok (.iconst (-1), 1) := by decide +kernel
theorem dX4_begin_89 : decode cX4_begin 89 = .ok (.iastore, 1) := by decide +kernel
theorem dX4_begin_90 : decode cX4_begin 90 = .ok (.aload_n 0, 1) := by decide +kernel
theorem dX4_begin_91 : decode cX4_begin 91 = .ok (.getfield 21, 3) := by decide +kernel
theorem dX4_begin_94 : decode cX4_begin 94 = .ok (.iload_n 1, 1) := by decide +kernel
theorem dX4_begin_95 : decode cX4_begin 95 = .ok (.aload_n 0, 1) := by decide +kernel
theorem dX4_begin_96 : decode cX4_begin 96 = .ok (.getfield 24, 3) := by decide +kernel
theorem dX4_begin_99 : decode cX4_begin 99 = .ok (.getfield 58, 3) := by decide +kernel
theorem dX4_begin_102 : decode cX4_begin 102 = .ok (.iload_n 1, 1) := by decide +kernel
theorem dX4_begin_103 : decode cX4_begin 103 = .ok (.iaload, 1) := by decide +kernel
theorem dX4_begin_104 : decode cX4_begin 104 = .ok (.iastore, 1) := by decide +kernel
theorem dX4_begin_105 : decode cX4_begin 105 = .ok (.iinc 1 1, 3) := by decide +kernel
theorem dX4_begin_108 : decode cX4_begin 108 = .ok (.goto (-54), 3) := by decide +kernel
theorem dX4_begin_111 : decode cX4_begin 111 = .ok (.return_, 1) := by decide +kernel
theorem dX4_copyFrom_0 : decode cX4_copyFrom 0 = .ok (.aload_n 0, 1) := by decide +kernel
theorem dX4_copyFrom_1 : decode cX4_copyFrom 1 = .ok (.aload_n 1, 1) := by decide +kernel
theorem dX4_copyFrom_2 : decode cX4_copyFrom 2 = .ok (.getfield 28, 3) := by decide +kernel
theorem dX4_copyFrom_5 : decode cX4_copyFrom 5 = .ok (.putfield 28, 3) := by decide +kernel
theorem dX4_copyFrom_8 : decode cX4_copyFrom 8 = .ok (.aload_n 0, 1) := by decide +kernel
theorem dX4_copyFrom_9 : decode cX4_copyFrom 9 = .ok (.aload_n 1, 1) := by decide +kernel
theorem dX4_copyFrom_10 : decode cX4_copyFrom 10 = .ok (.getfield 32, 3) := by decide +kernel
theorem dX4_copyFrom_13 : decode cX4_copyFrom 13 = .ok (.putfield 32, 3) := by decide +kernel
theorem dX4_copyFrom_16 : decode cX4_copyFrom 16 = .ok (.aload_n 0, 1) := by decide +kernel
theorem dX4_copyFrom_17 : decode cX4_copyFrom 17 = .ok (.aload_n 1, 1) := by decide +kernel
theorem dX4_copyFrom_18 : decode cX4_copyFrom 18 = .ok (.getfield 35, 3) := by decide +kernel
theorem dX4_copyFrom_21 : decode cX4_copyFrom 21 = .ok (.putfield 35, 3) := by decide +kernel
theorem dX4_copyFrom_24 : decode cX4_copyFrom 24 = .ok (.aload_n 1, 1) := by decide +kernel
theorem dX4_copyFrom_25 : decode cX4_copyFrom 25 = .ok (.getfield 9, 3) := by decide +kernel
theorem dX4_copyFrom_28 : decode cX4_copyFrom 28 = .ok (.iconst 0, 1) := by decide +kernel
theorem dX4_copyFrom_29 : decode cX4_copyFrom 29 = .ok (.aload_n 0, 1) := by decide +kernel
theorem dX4_copyFrom_30 : decode cX4_copyFrom 30 = .ok (.getfield 9, 3) := by decide +kernel
theorem dX4_copyFrom_33 : decode cX4_copyFrom 33 = .ok (.iconst 0, 1) := by decide +kernel
theorem dX4_copyFrom_34 : decode cX4_copyFrom 34 = .ok (.bipush 7, 2) := by decide +kernel
theorem dX4_copyFrom_36 : decode cX4_copyFrom 36 = .ok (.invokestatic 61, 3) := by decide +kernel
theorem dX4_copyFrom_39 : decode cX4_copyFrom 39 = .ok (.aload_n 1, 1) := by decide +kernel
theorem dX4_copyFrom_40 : decode cX4_copyFrom 40 = .ok (.getfield 15, 3) := by decide +kernel
theorem dX4_copyFrom_43 : decode cX4_copyFrom 43 = .ok (.iconst 0, 1) := by decide +kernel
theorem dX4_copyFrom_44 : decode cX4_copyFrom 44 = .ok (.aload_n 0, 1) := by decide +kernel
theorem dX4_copyFrom_45 : decode cX4_copyFrom 45 = .ok (.getfield 15, 3) := by decide +kernel
theorem dX4_copyFrom_48 : decode cX4_copyFrom 48 = .ok (.iconst 0, 1) := by decide +kernel
theorem dX4_copyFrom_49 : decode cX4_copyFrom 49 = .ok (.bipush 6, 2) := by decide +kernel
theorem dX4_copyFrom_51 : decode cX4_copyFrom 51 = .ok (.invokestatic 61, 3) := by decide +kernel
theorem dX4_copyFrom_54 : decode cX4_copyFrom 54 = .ok (.aload_n 1, 1) := by decide +kernel
theorem dX4_copyFrom_55 : decode cX4_copyFrom 55 = .ok (.getfield 18, 3) := by decide +kernel
theorem dX4_copyFrom_58 : decode cX4_copyFrom 58 = .ok (.iconst 0, 1) := by decide +kernel
theorem dX4_copyFrom_59 : decode cX4_copyFrom 59 = .ok (.aload_n 0, 1) := by decide +kernel
theorem dX4_copyFrom_60 : decode cX4_copyFrom 60 = .ok (.getfield 18, 3) := by decide +kernel
theorem dX4_copyFrom_63 : decode cX4_copyFrom 63 = .ok (.iconst 0, 1) := by decide +kernel
theorem dX4_copyFrom_64 : decode cX4_copyFrom 64 = .ok (.bipush 6, 2) := by decide +kernel
theorem dX4_copyFrom_66 : decode cX4_copyFrom 66 = .ok (.invokestatic 61, 3) := by decide +kernel
theorem dX4_copyFrom_69 : decode cX4_copyFrom 69 = .ok (.aload_n 1, 1) := by decide +kernel
theorem dX4_copyFrom_70 : decode cX4_copyFrom 70 = .ok (.getfield 21, 3) := by decide +kernel
theorem dX4_copyFrom_73 : decode cX4_copyFrom 73 = .ok (.iconst 0, 1) := by decide +kernel
theorem dX4_copyFrom_74 : decode cX4_copyFrom 74 = .ok (.aload_n 0, 1) := by decide +kernel
theorem dX4_copyFrom_75 : decode cX4_copyFrom 75 = .ok (.getfield 21, 3) := by decide +kernel
theorem dX4_copyFrom_78 : decode cX4_copyFrom 78 = .ok (.iconst 0, 1) := by decide +kernel
theorem dX4_copyFrom_79 : decode cX4_copyFrom 79 = .ok (.bipush 6, 2) := by decide +kernel
theorem dX4_copyFrom_81 : decode cX4_copyFrom 81 = .ok (.invokestatic 61, 3) := by decide +kernel
theorem dX4_copyFrom_84 : decode cX4_copyFrom 84 = .ok (.return_, 1) := by decide +kernel
set_option maxRecDepth 20000 in
theorem ggX2_add_X2_isFull : GoodIn wsX2_add wsX2_isFull := goodIn_r _ [7, 2, 1, 8, 9] rfl (by decide +kernel)
set_option maxRecDepth 20000 in
theorem gX2_add_X2_isFull : GoodIn wsX2_add (wsV RX2 19 RX2 yX2_isFull wsX2_isFull) := goodIn_app (a := [.methodLink RX2 19 yX2_isFull, .instanceMethod yX2_isFull, .selects RX2 yX2_isFull yX2_isFull, .initialized RX2]) (g_c9 (List.mem_cons_of_mem _ (List.mem_append_left _ (List.mem_of_getElem? (i := 2) rfl))) rfl (g_c9 (List.mem_cons_of_mem _ (List.mem_append_left _ (List.mem_of_getElem? (i := 3) rfl))) rfl (g_c9 (List.mem_cons_of_mem _ (List.mem_append_left _ (List.mem_of_getElem? (i := 4) rfl))) rfl (g_c9 (List.mem_cons_of_mem _ (List.mem_append_left _ (List.mem_of_getElem? (i := 5) rfl))) rfl g_n9)))) ggX2_add_X2_isFull
set_option maxHeartbeats 8000000 in
set_option maxRecDepth 100000 in
theorem w_Scene_begin (l : Launch) (D : va_G) (ad : Nat → Nat) (sc : Nat) (scd : Int32) (sch : Int32) (scs : Int32) (scp : Nat) (scpt : ClassId) (scpf : Nat → Int32) (scw : Nat) (scwt : ClassId) (scwf : Nat → Int32) (scc : Nat) (scct : ClassId) (sccf : Nat → Int32) (scf : Nat) (scft : ClassId) (scff : Nat → Int32) (tw : Nat) (twe : Int32) (twm : Int32) (twr : Int32) (twl : Nat) (twln : Int32) (twlc : Nat) (twlct : ClassId) (twlcf : Nat → Int64) (twp : Nat) (twpn : Int32) (twpc : Nat) (twpct : ClassId) (twpcf : Nat → Int64) (twu : Nat) (twun : Int32) (twuc : Nat) (twuct : ClassId) (twucf : Nat → Int64) (twh : Nat) (twht : ClassId) (twhf : Nat → Int32) (tws : Nat) (twst : ClassId) (twsf : Nat → Int32) (twg : Nat) (twgt : ClassId) (twgf : Nat → Int32) (two : Nat) (twot : ClassId) (twof : Nat → Int32) (twd : Nat) (twdt : ClassId) (twdf : Nat → Int32) (twq : Nat) (twqt : ClassId) (twqf : Nat → Int32) (hscpf : z_al 0 4 scpf) (hscwf : z_al 0 4 scwf) (hsccf : z_al (-1) 6 sccf) (hscff : z_al 0 12 scff) (htwm : z_in 0 14 twm) (htwr : z_in 0 5 twr) (htwln : z_in 0 5 twln) (htwpn : z_in 0 7 twpn) (htwun : z_in 0 6 twun) (htwhf : z_al 0 4 twhf) (htwsf : z_al 0 4 twsf) (htwgf : z_al 0 12 twgf) (htwof : z_al 0 6 twof) (htwdf : z_al 0 199 twdf) (htwqf : z_al 0 20 twqf) : z_Mv l yX4_begin wsX4_begin { frames := 0, cells := 0, slots := 0, locals := 0 } D ad [.ref sc] [(sc, .inr (4, [.ref tw, .int scd, .int sch, .int scs, .ref scp, .ref scw, .ref scc, .ref scf])), (scp, .inl (scpt, 7, .inl scpf)), (scw, .inl (scwt, 6, .inl scwf)), (scc, .inl (scct, 6, .inl sccf)), (scf, .inl (scft, 6, .inl scff)), (tw, .inr (8, [.ref twl, .ref twp, .ref twu, .int twe, .ref twh, .ref tws, .ref twg, .int twm, .ref two, .ref twd, .ref twq, .int twr])), (twl, .inr (2, [.ref twlc, .int twln])), (twlc, .inl (twlct, 5, .inr (.inl twlcf))), (twp, .inr (2, [.ref twpc, .int twpn])), (twpc, .inl (twpct, 7, .inr (.inl twpcf))), (twu, .inr (2, [.ref twuc, .int twun])), (twuc, .inl (twuct, 6, .inr (.inl twucf))), (twh, .inl (twht, 7, .inl twhf)), (tws, .inl (twst, 6, .inl twsf)), (twg, .inl (twgt, 6, .inl twgf)), (two, .inl (twot, 14, .inl twof)), (twd, .inl (twdt, 14, .inl twdf)), (twq, .inl (twqt, 14, .inl twqf))] [(scpt, .int), (scwt, .int), (scct, .int), (scft, .int), (twlct, .long), (twpct, .long), (twuct, .long), (twht, .int), (twst, .int), (twgt, .int), (twot, .int), (twdt, .int), (twqt, .int)] 0 0 (fun u9 => ∃ (x0_1 : Int32) (x0_2 : Int32) (x0_3 : Int32) (x1_f : Nat → Int32) (x2_f : Nat → Int32) (x3_f : Nat → Int32) (x4_f : Nat → Int32), z_al 0 4 x1_f ∧ z_al 0 4 x2_f ∧ z_al (-1) 6 x3_f ∧ z_al 0 12 x4_f ∧ u9 = ([(sc, .inr (4, [.ref tw, .int x0_1, .int x0_2, .int x0_3, .ref scp, .ref scw, .ref scc, .ref scf])), (scp, .inl (scpt, 7, .inl x1_f)), (scw, .inl (scwt, 6, .inl x2_f)), (scc, .inl (scct, 6, .inl x3_f)), (scf, .inl (scft, 6, .inl x4_f)), (tw, .inr (8, [.ref twl, .ref twp, .ref twu, .int twe, .ref twh, .ref tws, .ref twg, .int twm, .ref two, .ref twd, .ref twq, .int twr])), (twl, .inr (2, [.ref twlc, .int twln])), (twlc, .inl (twlct, 5, .inr (.inl twlcf))), (twp, .inr (2, [.ref twpc, .int twpn])), (twpc, .inl (twpct, 7, .inr (.inl twpcf))), (twu, .inr (2, [.ref twuc, .int twun])), (twuc, .inl (twuct, 6, .inr (.inl twucf))), (twh, .inl (twht, 7, .inl twhf)), (tws, .inl (twst, 6, .inl twsf)), (twg, .inl (twgt, 6, .inl twgf)), (two, .inl (twot, 14, .inl twof)), (twd, .inl (twdt, 14, .inl twdf)), (twq, .inl (twqt, 14, .inl twqf))], [])) := by
  refine z_ofV (cc := cX4_begin) (maxL := 2) (by decide) rfl (Nat.le_of_ble_eq_true rfl) ?_
  intro p e s m below meth c Q A ls hx hb hml hown hts hin hK hP hD hA hE hO hS hl hret
  have hown : s.vm.findClass RX4 = some m.cls := hown
  have hiX4 : ∀ w ∈ wsX40, w ∈ wsX4_begin := fun _ h9 => List.mem_cons_of_mem _ (List.mem_append_left _ (List.mem_append_left _ (List.mem_append_right _ h9)))
  have hiX8 : ∀ w ∈ wsX80, w ∈ wsX4_begin := fun _ h9 => List.mem_cons_of_mem _ (List.mem_append_left _ (List.mem_append_right _ h9))
  have hiX2 : ∀ w ∈ wsX20, w ∈ wsX4_begin := fun _ h9 => List.mem_cons_of_mem _ (List.mem_append_right _ h9)
  have hl : lv_has ls 2 [(0, .ref sc)] := hl
  refine lv_aload_n hx hb dX4_begin_0 rfl (lv_at hl 0 rfl) ?_
  refine lv_iconst (v := 0) hx hb dX4_begin_1 (by decide) ?_
  refine va_put (D := D) (ci := 4) (v := .int 0) (ty := tyX4 1) (C := RX4) (T := TX4) (N := 8) hx hb hts hiX4 tyX4 tyX4_ok nmX4 hown hK hP hD hS 0 rfl rfl 1 (by decide) (hts _ (List.mem_of_getElem? (i := 1) rfl)) (fun _ h9 => h9) rfl (tyX4_ok 1 (by decide)) rfl rfl (Nat.le_of_ble_eq_true rfl) dX4_begin_2 (fun H locs hP hD hS => ?_)
  have hP : va_P D vwCl [(sc, .inr (4, [.ref tw, .int 0, .int sch, .int scs, .ref scp, .ref scw, .ref scc, .ref scf])), (scp, .inl (scpt, 7, .inl scpf)), (scw, .inl (scwt, 6, .inl scwf)), (scc, .inl (scct, 6, .inl sccf)), (scf, .inl (scft, 6, .inl scff)), (tw, .inr (8, [.ref twl, .ref twp, .ref twu, .int twe, .ref twh, .ref tws, .ref twg, .int twm, .ref two, .ref twd, .ref twq, .int twr])), (twl, .inr (2, [.ref twlc, .int twln])), (twlc, .inl (twlct, 5, .inr (.inl twlcf))), (twp, .inr (2, [.ref twpc, .int twpn])), (twpc, .inl (twpct, 7, .inr (.inl twpcf))), (twu, .inr (2, [.ref twuc, .int twun])), (twuc, .inl (twuct, 6, .inr (.inl twucf))), (twh, .inl (twht, 7, .inl twhf)), (tws, .inl (twst, 6, .inl twsf)), (twg, .inl (twgt, 6, .inl twgf)), (two, .inl (twot, 14, .inl twof)), (twd, .inl (twdt, 14, .inl twdf)), (twq, .inl (twqt, 14, .inl twqf))] H := hP
  have hD : va_D A [(sc, .inr (4, [.ref tw, .int 0, .int sch, .int scs, .ref scp, .ref scw, .ref scc, .ref scf])), (scp, .inl (scpt, 7, .inl scpf)), (scw, .inl (scwt, 6, .inl scwf)), (scc, .inl (scct, 6, .inl sccf)), (scf, .inl (scft, 6, .inl scff)), (tw, .inr (8, [.ref twl, .ref twp, .ref twu, .int twe, .ref twh, .ref tws, .ref twg, .int twm, .ref two, .ref twd, .ref twq, .int twr])), (twl, .inr (2, [.ref twlc, .int twln])), (twlc, .inl (twlct, 5, .inr (.inl twlcf))), (twp, .inr (2, [.ref twpc, .int twpn])), (twpc, .inl (twpct, 7, .inr (.inl twpcf))), (twu, .inr (2, [.ref twuc, .int twun])), (twuc, .inl (twuct, 6, .inr (.inl twucf))), (twh, .inl (twht, 7, .inl twhf)), (tws, .inl (twst, 6, .inl twsf)), (twg, .inl (twgt, 6, .inl twgf)), (two, .inl (twot, 14, .inl twof)), (twd, .inl (twdt, 14, .inl twdf)), (twq, .inl (twqt, 14, .inl twqf))] := hD
  refine lv_aload_n hx hb dX4_begin_5 rfl (lv_at hl 0 rfl) ?_
  refine lv_iconst (v := 0) hx hb dX4_begin_6 (by decide) ?_
  refine va_put (D := D) (ci := 4) (v := .int 0) (ty := tyX4 2) (C := RX4) (T := TX4) (N := 8) hx hb hts hiX4 tyX4 tyX4_ok nmX4 hown hK hP hD hS 0 rfl rfl 2 (by decide) (hts _ (List.mem_of_getElem? (i := 2) rfl)) (fun _ h9 => h9) rfl (tyX4_ok 2 (by decide)) rfl rfl (Nat.le_of_ble_eq_true rfl) dX4_begin_7 (fun H locs hP hD hS => ?_)
  have hP : va_P D vwCl [(sc, .inr (4, [.ref tw, .int 0, .int 0, .int scs, .ref scp, .ref scw, .ref scc, .ref scf])), (scp, .inl (scpt, 7, .inl scpf)), (scw, .inl (scwt, 6, .inl scwf)), (scc, .inl (scct, 6, .inl sccf)), (scf, .inl (scft, 6, .inl scff)), (tw, .inr (8, [.ref twl, .ref twp, .ref twu, .int twe, .ref twh, .ref tws, .ref twg, .int twm, .ref two, .ref twd, .ref twq, .int twr])), (twl, .inr (2, [.ref twlc, .int twln])), (twlc, .inl (twlct, 5, .inr (.inl twlcf))), (twp, .inr (2, [.ref twpc, .int twpn])), (twpc, .inl (twpct, 7, .inr (.inl twpcf))), (twu, .inr (2, [.ref twuc, .int twun])), (twuc, .inl (twuct, 6, .inr (.inl twucf))), (twh, .inl (twht, 7, .inl twhf)), (tws, .inl (twst, 6, .inl twsf)), (twg, .inl (twgt, 6, .inl twgf)), (two, .inl (twot, 14, .inl twof)), (twd, .inl (twdt, 14, .inl twdf)), (twq, .inl (twqt, 14, .inl twqf))] H := hP
  have hD : va_D A [(sc, .inr (4, [.ref tw, .int 0, .int 0, .int scs, .ref scp, .ref scw, .ref scc, .ref scf])), (scp, .inl (scpt, 7, .inl scpf)), (scw, .inl (scwt, 6, .inl scwf)), (scc, .inl (scct, 6, .inl sccf)), (scf, .inl (scft, 6, .inl scff)), (tw, .inr (8, [.ref twl, .ref twp, .ref twu, .int twe, .ref twh, .ref tws, .ref twg, .int twm, .ref two, .ref twd, .ref twq, .int twr])), (twl, .inr (2, [.ref twlc, .int twln])), (twlc, .inl (twlct, 5, .inr (.inl twlcf))), (twp, .inr (2, [.ref twpc, .int twpn])), (twpc, .inl (twpct, 7, .inr (.inl twpcf))), (twu, .inr (2, [.ref twuc, .int twun])), (twuc, .inl (twuct, 6, .inr (.inl twucf))), (twh, .inl (twht, 7, .inl twhf)), (tws, .inl (twst, 6, .inl twsf)), (twg, .inl (twgt, 6, .inl twgf)), (two, .inl (twot, 14, .inl twof)), (twd, .inl (twdt, 14, .inl twdf)), (twq, .inl (twqt, 14, .inl twqf))] := hD
  refine lv_aload_n hx hb dX4_begin_10 rfl (lv_at hl 0 rfl) ?_
  refine lv_iconst (v := 0) hx hb dX4_begin_11 (by decide) ?_
  refine va_put (D := D) (ci := 4) (v := .int 0) (ty := tyX4 3) (C := RX4) (T := TX4) (N := 8) hx hb hts hiX4 tyX4 tyX4_ok nmX4 hown hK hP hD hS 0 rfl rfl 3 (by decide) (hts _ (List.mem_of_getElem? (i := 3) rfl)) (fun _ h9 => h9) rfl (tyX4_ok 3 (by decide)) rfl rfl (Nat.le_of_ble_eq_true rfl) dX4_begin_12 (fun H locs hP hD hS => ?_)
  have hP : va_P D vwCl [(sc, .inr (4, [.ref tw, .int 0, .int 0, .int 0, .ref scp, .ref scw, .ref scc, .ref scf])), (scp, .inl (scpt, 7, .inl scpf)), (scw, .inl (scwt, 6, .inl scwf)), (scc, .inl (scct, 6, .inl sccf)), (scf, .inl (scft, 6, .inl scff)), (tw, .inr (8, [.ref twl, .ref twp, .ref twu, .int twe, .ref twh, .ref tws, .ref twg, .int twm, .ref two, .ref twd, .ref twq, .int twr])), (twl, .inr (2, [.ref twlc, .int twln])), (twlc, .inl (twlct, 5, .inr (.inl twlcf))), (twp, .inr (2, [.ref twpc, .int twpn])), (twpc, .inl (twpct, 7, .inr (.inl twpcf))), (twu, .inr (2, [.ref twuc, .int twun])), (twuc, .inl (twuct, 6, .inr (.inl twucf))), (twh, .inl (twht, 7, .inl twhf)), (tws, .inl (twst, 6, .inl twsf)), (twg, .inl (twgt, 6, .inl twgf)), (two, .inl (twot, 14, .inl twof)), (twd, .inl (twdt, 14, .inl twdf)), (twq, .inl (twqt, 14, .inl twqf))] H := hP
  have hD : va_D A [(sc, .inr (4, [.ref tw, .int 0, .int 0, .int 0, .ref scp, .ref scw, .ref scc, .ref scf])), (scp, .inl (scpt, 7, .inl scpf)), (scw, .inl (scwt, 6, .inl scwf)), (scc, .inl (scct, 6, .inl sccf)), (scf, .inl (scft, 6, .inl scff)), (tw, .inr (8, [.ref twl, .ref twp, .ref twu, .int twe, .ref twh, .ref tws, .ref twg, .int twm, .ref two, .ref twd, .ref twq, .int twr])), (twl, .inr (2, [.ref twlc, .int twln])), (twlc, .inl (twlct, 5, .inr (.inl twlcf))), (twp, .inr (2, [.ref twpc, .int twpn])), (twpc, .inl (twpct, 7, .inr (.inl twpcf))), (twu, .inr (2, [.ref twuc, .int twun])), (twuc, .inl (twuct, 6, .inr (.inl twucf))), (twh, .inl (twht, 7, .inl twhf)), (tws, .inl (twst, 6, .inl twsf)), (twg, .inl (twgt, 6, .inl twgf)), (two, .inl (twot, 14, .inl twof)), (twd, .inl (twdt, 14, .inl twdf)), (twq, .inl (twqt, 14, .inl twqf))] := hD
  refine lv_iconst (v := 0) hx hb dX4_begin_15 (by decide) ?_
  refine lv_istore_n (lv' := [(1, .int 0), (0, .ref sc)]) hx hb dX4_begin_16 rfl hl (by decide) rfl (fun ls hl => ?_)
  have LP1 : ∀ (n : Nat) (v1_1 : Int32) (g1_1 : Nat → Int32) (H : Heap) (locs : List Loc) (ls : Array Slot), z_in 0 7 v1_1 → z_al 0 4 g1_1 → 8 - v1_1.toInt ≤ (n : Int) → va_P D vwCl [(sc, .inr (4, [.ref tw, .int 0, .int 0, .int 0, .ref scp, .ref scw, .ref scc, .ref scf])), (scp, .inl (scpt, 7, .inl g1_1)), (scw, .inl (scwt, 6, .inl scwf)), (scc, .inl (scct, 6, .inl sccf)), (scf, .inl (scft, 6, .inl scff)), (tw, .inr (8, [.ref twl, .ref twp, .ref twu, .int twe, .ref twh, .ref tws, .ref twg, .int twm, .ref two, .ref twd, .ref twq, .int twr])), (twl, .inr (2, [.ref twlc, .int twln])), (twlc, .inl (twlct, 5, .inr (.inl twlcf))), (twp, .inr (2, [.ref twpc, .int twpn])), (twpc, .inl (twpct, 7, .inr (.inl twpcf))), (twu, .inr (2, [.ref twuc, .int twun])), (twuc, .inl (twuct, 6, .inr (.inl twucf))), (twh, .inl (twht, 7, .inl twhf)), (tws, .inl (twst, 6, .inl twsf)), (twg, .inl (twgt, 6, .inl twgf)), (two, .inl (twot, 14, .inl twof)), (twd, .inl (twdt, 14, .inl twdf)), (twq, .inl (twqt, 14, .inl twqf))] H → va_D A [(sc, .inr (4, [.ref tw, .int 0, .int 0, .int 0, .ref scp, .ref scw, .ref scc, .ref scf])), (scp, .inl (scpt, 7, .inl g1_1)), (scw, .inl (scwt, 6, .inl scwf)), (scc, .inl (scct, 6, .inl sccf)), (scf, .inl (scft, 6, .inl scff)), (tw, .inr (8, [.ref twl, .ref twp, .ref twu, .int twe, .ref twh, .ref tws, .ref twg, .int twm, .ref two, .ref twd, .ref twq, .int twr])), (twl, .inr (2, [.ref twlc, .int twln])), (twlc, .inl (twlct, 5, .inr (.inl twlcf))), (twp, .inr (2, [.ref twpc, .int twpn])), (twpc, .inl (twpct, 7, .inr (.inl twpcf))), (twu, .inr (2, [.ref twuc, .int twun])), (twuc, .inl (twuct, 6, .inr (.inl twucf))), (twh, .inl (twht, 7, .inl twhf)), (tws, .inl (twst, 6, .inl twsf)), (twg, .inl (twgt, 6, .inl twgf)), (two, .inl (twot, 14, .inl twof)), (twd, .inl (twdt, 14, .inl twdf)), (twq, .inl (twqt, 14, .inl twqf))] → va_S A s.heap H locs → lv_has ls 2 [(1, .int v1_1), (0, .ref sc)] → W p l e ({ frames := 0, cells := 0, slots := 0, locals := 0 }) s m ([.ref sc] : List Value).toArray below meth c H locs 0 0 Q (F0 m 17 ls []) := by
    intro n
    induction n with
    | zero => intro v1_1 g1_1 H locs ls hv1_1 hg1_1 hn1; exact absurd hn1 (by have q1 := hv1_1.1; have q2 := hv1_1.2; omega)
    | succ n ih1 =>
      intro v1_1 g1_1 H locs ls hv1_1 hg1_1 hn1 hP hD hS hl
      have q1 := hv1_1.1
      have q1' := hv1_1.2
      refine lv_iload_n hx hb dX4_begin_17 rfl (lv_at hl 0 rfl) ?_
      refine lv_aload_n hx hb dX4_begin_18 rfl (lv_at hl 1 rfl) ?_
      refine va_get (D := D) (ci := 4) (v := .ref tw) (C := RX4) (T := TX4) (N := 8) hx hb hts hiX4 hown hK hP 0 rfl rfl 0 (by decide) (hts _ (List.mem_of_getElem? (i := 4) rfl)) (fun _ h9 => h9) rfl dX4_begin_19 ?_
      refine va_get (D := D) (ci := 8) (v := .ref twp) (C := RX8) (T := TX8) (N := 12) hx hb hts hiX8 hown hK hP 5 rfl rfl 1 (by decide) (hts _ (List.mem_of_getElem? (i := 5) rfl)) (fun _ h9 => h9) rfl dX4_begin_22 ?_
      refine va_get (D := D) (ci := 2) (v := .int twpn) (C := RX2) (T := TX2) (N := 2) hx hb hts hiX2 hown hK hP 8 rfl rfl 1 (by decide) (hts _ (List.mem_of_getElem? (i := 6) rfl)) (fun _ h9 => h9) rfl dX4_begin_25 ?_
      refine lv_icmp_ge (tgt := 52) hx hb dX4_begin_28 (by decide) (fun c_1 => ?_) (fun c_1 => ?_)
      · skip
        refine lv_iconst (v := 0) hx hb dX4_begin_52 (by decide) ?_
        refine lv_istore_n (lv' := [(1, .int 0), (0, .ref sc)]) hx hb dX4_begin_53 rfl hl (by decide) rfl (fun ls hl => ?_)
        have LP2 : ∀ (n : Nat) (v2_1 : Int32) (g2_1 : Nat → Int32) (g2_2 : Nat → Int32) (g2_3 : Nat → Int32) (H : Heap) (locs : List Loc) (ls : Array Slot), z_in 0 6 v2_1 → z_al (-1) 6 g2_1 → z_al 0 12 g2_2 → z_al 0 4 g2_3 → 7 - v2_1.toInt ≤ (n : Int) → va_P D vwCl [(sc, .inr (4, [.ref tw, .int 0, .int 0, .int 0, .ref scp, .ref scw, .ref scc, .ref scf])), (scp, .inl (scpt, 7, .inl g1_1)), (scw, .inl (scwt, 6, .inl g2_3)), (scc, .inl (scct, 6, .inl g2_1)), (scf, .inl (scft, 6, .inl g2_2)), (tw, .inr (8, [.ref twl, .ref twp, .ref twu, .int twe, .ref twh, .ref tws, .ref twg, .int twm, .ref two, .ref twd, .ref twq, .int twr])), (twl, .inr (2, [.ref twlc, .int twln])), (twlc, .inl (twlct, 5, .inr (.inl twlcf))), (twp, .inr (2, [.ref twpc, .int twpn])), (twpc, .inl (twpct, 7, .inr (.inl twpcf))), (twu, .inr (2, [.ref twuc, .int twun])), (twuc, .inl (twuct, 6, .inr (.inl twucf))), (twh, .inl (twht, 7, .inl twhf)), (tws, .inl (twst, 6, .inl twsf)), (twg, .inl (twgt, 6, .inl twgf)), (two, .inl (twot, 14, .inl twof)), (twd, .inl (twdt, 14, .inl twdf)), (twq, .inl (twqt, 14, .inl twqf))] H → va_D A [(sc, .inr (4, [.ref tw, .int 0, .int 0, .int 0, .ref scp, .ref scw, .ref scc, .ref scf])), (scp, .inl (scpt, 7, .inl g1_1)), (scw, .inl (scwt, 6, .inl g2_3)), (scc, .inl (scct, 6, .inl g2_1)), (scf, .inl (scft, 6, .inl g2_2)), (tw, .inr (8, [.ref twl, .ref twp, .ref twu, .int twe, .ref twh, .ref tws, .ref twg, .int twm, .ref two, .ref twd, .ref twq, .int twr])), (twl, .inr (2, [.ref twlc, .int twln])), (twlc, .inl (twlct, 5, .inr (.inl twlcf))), (twp, .inr (2, [.ref twpc, .int twpn])), (twpc, .inl (twpct, 7, .inr (.inl twpcf))), (twu, .inr (2, [.ref twuc, .int twun])), (twuc, .inl (twuct, 6, .inr (.inl twucf))), (twh, .inl (twht, 7, .inl twhf)), (tws, .inl (twst, 6, .inl twsf)), (twg, .inl (twgt, 6, .inl twgf)), (two, .inl (twot, 14, .inl twof)), (twd, .inl (twdt, 14, .inl twdf)), (twq, .inl (twqt, 14, .inl twqf))] → va_S A s.heap H locs → lv_has ls 2 [(1, .int v2_1), (0, .ref sc)] → W p l e ({ frames := 0, cells := 0, slots := 0, locals := 0 }) s m ([.ref sc] : List Value).toArray below meth c H locs 0 0 Q (F0 m 54 ls []) := by
          intro n
          induction n with
          | zero => intro v2_1 g2_1 g2_2 g2_3 H locs ls hv2_1 hg2_1 hg2_2 hg2_3 hn2; exact absurd hn2 (by have q1 := hv2_1.1; have q2 := hv2_1.2; omega)
          | succ n ih2 =>
            intro v2_1 g2_1 g2_2 g2_3 H locs ls hv2_1 hg2_1 hg2_2 hg2_3 hn2 hP hD hS hl
            have q2 := hv2_1.1
            have q2' := hv2_1.2
            refine lv_iload_n hx hb dX4_begin_54 rfl (lv_at hl 0 rfl) ?_
            refine lv_aload_n hx hb dX4_begin_55 rfl (lv_at hl 1 rfl) ?_
            refine va_get (D := D) (ci := 4) (v := .ref tw) (C := RX4) (T := TX4) (N := 8) hx hb hts hiX4 hown hK hP 0 rfl rfl 0 (by decide) (hts _ (List.mem_of_getElem? (i := 4) rfl)) (fun _ h9 => h9) rfl dX4_begin_56 ?_
            refine va_get (D := D) (ci := 8) (v := .ref twu) (C := RX8) (T := TX8) (N := 12) hx hb hts hiX8 hown hK hP 5 rfl rfl 2 (by decide) (hts _ (List.mem_of_getElem? (i := 9) rfl)) (fun _ h9 => h9) rfl dX4_begin_59 ?_
            refine va_get (D := D) (ci := 2) (v := .int twun) (C := RX2) (T := TX2) (N := 2) hx hb hts hiX2 hown hK hP 10 rfl rfl 1 (by decide) (hts _ (List.mem_of_getElem? (i := 6) rfl)) (fun _ h9 => h9) rfl dX4_begin_62 ?_
            refine lv_icmp_ge (tgt := 111) hx hb dX4_begin_65 (by decide) (fun c_2 => ?_) (fun c_2 => ?_)
            · skip
              exact hret ([(sc, .inr (4, [.ref tw, .int 0, .int 0, .int 0, .ref scp, .ref scw, .ref scc, .ref scf])), (scp, .inl (scpt, 7, .inl g1_1)), (scw, .inl (scwt, 6, .inl g2_3)), (scc, .inl (scct, 6, .inl g2_1)), (scf, .inl (scft, 6, .inl g2_2)), (tw, .inr (8, [.ref twl, .ref twp, .ref twu, .int twe, .ref twh, .ref tws, .ref twg, .int twm, .ref two, .ref twd, .ref twq, .int twr])), (twl, .inr (2, [.ref twlc, .int twln])), (twlc, .inl (twlct, 5, .inr (.inl twlcf))), (twp, .inr (2, [.ref twpc, .int twpn])), (twpc, .inl (twpct, 7, .inr (.inl twpcf))), (twu, .inr (2, [.ref twuc, .int twun])), (twuc, .inl (twuct, 6, .inr (.inl twucf))), (twh, .inl (twht, 7, .inl twhf)), (tws, .inl (twst, 6, .inl twsf)), (twg, .inl (twgt, 6, .inl twgf)), (two, .inl (twot, 14, .inl twof)), (twd, .inl (twdt, 14, .inl twdf)), (twq, .inl (twqt, 14, .inl twqf))], []) _ _ _ _ dX4_begin_111 ⟨0, 0, 0, g1_1, g2_3, g2_1, g2_2, hg1_1, hg2_3, hg2_1, hg2_2, rfl⟩ hP (hK.sub [] rfl) hD hS
            · skip
              have h_3 : z_in 0 5 v2_1 := z_ltL (Int32.not_le.mp c_2) hv2_1 htwun rfl
              have h_4 : z_in 1 6 twun := z_ltR (Int32.not_le.mp c_2) hv2_1 htwun rfl
              refine lv_aload_n hx hb dX4_begin_68 rfl (lv_at hl 1 rfl) ?_
              refine va_get (D := D) (ci := 4) (v := .ref scw) (C := RX4) (T := TX4) (N := 8) hx hb hts hiX4 hown hK hP 0 rfl rfl 5 (by decide) (hts _ (List.mem_of_getElem? (i := 10) rfl)) (fun _ h9 => h9) rfl dX4_begin_69 ?_
              refine lv_iload_n hx hb dX4_begin_72 rfl (lv_at hl 0 rfl) ?_
              refine lv_aload_n hx hb dX4_begin_73 rfl (lv_at hl 1 rfl) ?_
              refine va_get (D := D) (ci := 4) (v := .ref tw) (C := RX4) (T := TX4) (N := 8) hx hb hts hiX4 hown hK hP 0 rfl rfl 0 (by decide) (hts _ (List.mem_of_getElem? (i := 4) rfl)) (fun _ h9 => h9) rfl dX4_begin_74 ?_
              refine va_get (D := D) (ci := 8) (v := .ref tws) (C := RX8) (T := TX8) (N := 12) hx hb hts hiX8 hown hK hP 5 rfl rfl 5 (by decide) (hts _ (List.mem_of_getElem? (i := 11) rfl)) (fun _ h9 => h9) rfl dX4_begin_77 ?_
              refine lv_iload_n hx hb dX4_begin_80 rfl (lv_at hl 0 rfl) ?_
              refine va_iald hx hb hK hP 13 8 rfl rfl (z_vp h_3 rfl) dX4_begin_81 ?_
              refine lv_topi (fun y_5 ey_5 => ?_)
              have h_6 : z_in 0 4 y_5 := by rw [ey_5]; exact htwsf _
              refine va_iast hx hb hK hP hD hS 2 1 rfl rfl (z_vp h_3 rfl) dX4_begin_82 (fun H locs hP hD hS => ?_)
              have h_8 : z_al 0 4 (upd g2_3 (v2_1 : Int32).toNatClampNeg y_5) := z_alu hg2_3 h_6
              generalize (upd g2_3 (v2_1 : Int32).toNatClampNeg y_5) = f_7 at hP hD h_8
              have hP : va_P D vwCl [(sc, .inr (4, [.ref tw, .int 0, .int 0, .int 0, .ref scp, .ref scw, .ref scc, .ref scf])), (scp, .inl (scpt, 7, .inl g1_1)), (scw, .inl (scwt, 6, .inl f_7)), (scc, .inl (scct, 6, .inl g2_1)), (scf, .inl (scft, 6, .inl g2_2)), (tw, .inr (8, [.ref twl, .ref twp, .ref twu, .int twe, .ref twh, .ref tws, .ref twg, .int twm, .ref two, .ref twd, .ref twq, .int twr])), (twl, .inr (2, [.ref twlc, .int twln])), (twlc, .inl (twlct, 5, .inr (.inl twlcf))), (twp, .inr (2, [.ref twpc, .int twpn])), (twpc, .inl (twpct, 7, .inr (.inl twpcf))), (twu, .inr (2, [.ref twuc, .int twun])), (twuc, .inl (twuct, 6, .inr (.inl twucf))), (twh, .inl (twht, 7, .inl twhf)), (tws, .inl (twst, 6, .inl twsf)), (twg, .inl (twgt, 6, .inl twgf)), (two, .inl (twot, 14, .inl twof)), (twd, .inl (twdt, 14, .inl twdf)), (twq, .inl (twqt, 14, .inl twqf))] H := hP
              have hD : va_D A [(sc, .inr (4, [.ref tw, .int 0, .int 0, .int 0, .ref scp, .ref scw, .ref scc, .ref scf])), (scp, .inl (scpt, 7, .inl g1_1)), (scw, .inl (scwt, 6, .inl f_7)), (scc, .inl (scct, 6, .inl g2_1)), (scf, .inl (scft, 6, .inl g2_2)), (tw, .inr (8, [.ref twl, .ref twp, .ref twu, .int twe, .ref twh, .ref tws, .ref twg, .int twm, .ref two, .ref twd, .ref twq, .int twr])), (twl, .inr (2, [.ref twlc, .int twln])), (twlc, .inl (twlct, 5, .inr (.inl twlcf))), (twp, .inr (2, [.ref twpc, .int twpn])), (twpc, .inl (twpct, 7, .inr (.inl twpcf))), (twu, .inr (2, [.ref twuc, .int twun])), (twuc, .inl (twuct, 6, .inr (.inl twucf))), (twh, .inl (twht, 7, .inl twhf)), (tws, .inl (twst, 6, .inl twsf)), (twg, .inl (twgt, 6, .inl twgf)), (two, .inl (twot, 14, .inl twof)), (twd, .inl (twdt, 14, .inl twdf)), (twq, .inl (twqt, 14, .inl twqf))] := hD
              refine lv_aload_n hx hb dX4_begin_83 rfl (lv_at hl 1 rfl) ?_
              refine va_get (D := D) (ci := 4) (v := .ref scc) (C := RX4) (T := TX4) (N := 8) hx hb hts hiX4 hown hK hP 0 rfl rfl 6 (by decide) (hts _ (List.mem_of_getElem? (i := 12) rfl)) (fun _ h9 => h9) rfl dX4_begin_84 ?_
              refine lv_iload_n hx hb dX4_begin_87 rfl (lv_at hl 0 rfl) ?_
              refine lv_iconst (v := (-1)) hx hb dX4_begin_88 (by decide) ?_
              refine va_iast hx hb hK hP hD hS 3 2 rfl rfl (z_vp h_3 rfl) dX4_begin_89 (fun H locs hP hD hS => ?_)
              have h_10 : z_al (-1) 6 (upd g2_1 (v2_1 : Int32).toNatClampNeg (-1)) := z_alu hg2_1 (z_w (c := (-1)) (d := 6) (z_lit (x := (-1)) (a := (-1)) (b := (-1)) rfl) rfl)
              generalize (upd g2_1 (v2_1 : Int32).toNatClampNeg (-1)) = f_9 at hP hD h_10
              have hP : va_P D vwCl [(sc, .inr (4, [.ref tw, .int 0, .int 0, .int 0, .ref scp, .ref scw, .ref scc, .ref scf])), (scp, .inl (scpt, 7, .inl g1_1)), (scw, .inl (scwt, 6, .inl f_7)), (scc, .inl (scct, 6, .inl f_9)), (scf, .inl (scft, 6, .inl g2_2)), (tw, .inr (8, [.ref twl, .ref twp, .ref twu, .int twe, .ref twh, .ref tws, .ref twg, .int twm, .ref two, .ref twd, .ref twq, .int twr])), (twl, .inr (2, [.ref twlc, .int twln])), (twlc, .inl (twlct, 5, .inr (.inl twlcf))), (twp, .inr (2, [.ref twpc, .int twpn])), (twpc, .inl (twpct, 7, .inr (.inl twpcf))), (twu, .inr (2, [.ref twuc, .int twun])), (twuc, .inl (twuct, 6, .inr (.inl twucf))), (twh, .inl (twht, 7, .inl twhf)), (tws, .inl (twst, 6, .inl twsf)), (twg, .inl (twgt, 6, .inl twgf)), (two, .inl (twot, 14, .inl twof)), (twd, .inl (twdt, 14, .inl twdf)), (twq, .inl (twqt, 14, .inl twqf))] H := hP
              have hD : va_D A [(sc, .inr (4, [.ref tw, .int 0, .int 0, .int 0, .ref scp, .ref scw, .ref scc, .ref scf])), (scp, .inl (scpt, 7, .inl g1_1)), (scw, .inl (scwt, 6, .inl f_7)), (scc, .inl (scct, 6, .inl f_9)), (scf, .inl (scft, 6, .inl g2_2)), (tw, .inr (8, [.ref twl, .ref twp, .ref twu, .int twe, .ref twh, .ref tws, .ref twg, .int twm, .ref two, .ref twd, .ref twq, .int twr])), (twl, .inr (2, [.ref twlc, .int twln])), (twlc, .inl (twlct, 5, .inr (.inl twlcf))), (twp, .inr (2, [.ref twpc, .int twpn])), (twpc, .inl (twpct, 7, .inr (.inl twpcf))), (twu, .inr (2, [.ref twuc, .int twun])), (twuc, .inl (twuct, 6, .inr (.inl twucf))), (twh, .inl (twht, 7, .inl twhf)), (tws, .inl (twst, 6, .inl twsf)), (twg, .inl (twgt, 6, .inl twgf)), (two, .inl (twot, 14, .inl twof)), (twd, .inl (twdt, 14, .inl twdf)), (twq, .inl (twqt, 14, .inl twqf))] := hD
              refine lv_aload_n hx hb dX4_begin_90 rfl (lv_at hl 1 rfl) ?_
              refine va_get (D := D) (ci := 4) (v := .ref scf) (C := RX4) (T := TX4) (N := 8) hx hb hts hiX4 hown hK hP 0 rfl rfl 7 (by decide) (hts _ (List.mem_of_getElem? (i := 13) rfl)) (fun _ h9 => h9) rfl dX4_begin_91 ?_
              refine lv_iload_n hx hb dX4_begin_94 rfl (lv_at hl 0 rfl) ?_
              refine lv_aload_n hx hb dX4_begin_95 rfl (lv_at hl 1 rfl) ?_
              refine va_get (D := D) (ci := 4) (v := .ref tw) (C := RX4) (T := TX4) (N := 8) hx hb hts hiX4 hown hK hP 0 rfl rfl 0 (by decide) (hts _ (List.mem_of_getElem? (i := 4) rfl)) (fun _ h9 => h9) rfl dX4_begin_96 ?_
              refine va_get (D := D) (ci := 8) (v := .ref twg) (C := RX8) (T := TX8) (N := 12) hx hb hts hiX8 hown hK hP 5 rfl rfl 6 (by decide) (hts _ (List.mem_of_getElem? (i := 14) rfl)) (fun _ h9 => h9) rfl dX4_begin_99 ?_
              refine lv_iload_n hx hb dX4_begin_102 rfl (lv_at hl 0 rfl) ?_
              refine va_iald hx hb hK hP 14 9 rfl rfl (z_vp h_3 rfl) dX4_begin_103 ?_
              refine lv_topi (fun y_11 ey_11 => ?_)
              have h_12 : z_in 0 12 y_11 := by rw [ey_11]; exact htwgf _
              refine va_iast hx hb hK hP hD hS 4 3 rfl rfl (z_vp h_3 rfl) dX4_begin_104 (fun H locs hP hD hS => ?_)
              have h_14 : z_al 0 12 (upd g2_2 (v2_1 : Int32).toNatClampNeg y_11) := z_alu hg2_2 h_12
              generalize (upd g2_2 (v2_1 : Int32).toNatClampNeg y_11) = f_13 at hP hD h_14
              have hP : va_P D vwCl [(sc, .inr (4, [.ref tw, .int 0, .int 0, .int 0, .ref scp, .ref scw, .ref scc, .ref scf])), (scp, .inl (scpt, 7, .inl g1_1)), (scw, .inl (scwt, 6, .inl f_7)), (scc, .inl (scct, 6, .inl f_9)), (scf, .inl (scft, 6, .inl f_13)), (tw, .inr (8, [.ref twl, .ref twp, .ref twu, .int twe, .ref twh, .ref tws, .ref twg, .int twm, .ref two, .ref twd, .ref twq, .int twr])), (twl, .inr (2, [.ref twlc, .int twln])), (twlc, .inl (twlct, 5, .inr (.inl twlcf))), (twp, .inr (2, [.ref twpc, .int twpn])), (twpc, .inl (twpct, 7, .inr (.inl twpcf))), (twu, .inr (2, [.ref twuc, .int twun])), (twuc, .inl (twuct, 6, .inr (.inl twucf))), (twh, .inl (twht, 7, .inl twhf)), (tws, .inl (twst, 6, .inl twsf)), (twg, .inl (twgt, 6, .inl twgf)), (two, .inl (twot, 14, .inl twof)), (twd, .inl (twdt, 14, .inl twdf)), (twq, .inl (twqt, 14, .inl twqf))] H := hP
              have hD : va_D A [(sc, .inr (4, [.ref tw, .int 0, .int 0, .int 0, .ref scp, .ref scw, .ref scc, .ref scf])), (scp, .inl (scpt, 7, .inl g1_1)), (scw, .inl (scwt, 6, .inl f_7)), (scc, .inl (scct, 6, .inl f_9)), (scf, .inl (scft, 6, .inl f_13)), (tw, .inr (8, [.ref twl, .ref twp, .ref twu, .int twe, .ref twh, .ref tws, .ref twg, .int twm, .ref two, .ref twd, .ref twq, .int twr])), (twl, .inr (2, [.ref twlc, .int twln])), (twlc, .inl (twlct, 5, .inr (.inl twlcf))), (twp, .inr (2, [.ref twpc, .int twpn])), (twpc, .inl (twpct, 7, .inr (.inl twpcf))), (twu, .inr (2, [.ref twuc, .int twun])), (twuc, .inl (twuct, 6, .inr (.inl twucf))), (twh, .inl (twht, 7, .inl twhf)), (tws, .inl (twst, 6, .inl twsf)), (twg, .inl (twgt, 6, .inl twgf)), (two, .inl (twot, 14, .inl twof)), (twd, .inl (twdt, 14, .inl twdf)), (twq, .inl (twqt, 14, .inl twqf))] := hD
              obtain ⟨y_15, ey_15⟩ : ∃ y : Int32, y = v2_1 + 1 := ⟨_, rfl⟩
              have h_16 : z_in 1 6 y_15 := by rw [ey_15]; exact z_add h_3 (z_lit (x := 1) (a := 1) (b := 1) rfl) rfl rfl
              have ty_15 : y_15.toInt = v2_1.toInt + 1 := by rw [ey_15]; exact z_addT h_3 (z_lit (x := 1) (a := 1) (b := 1) rfl) rfl
              refine lv_iinc (v := y_15) (lv' := [(1, .int y_15), (0, .ref sc)]) hx hb dX4_begin_105 hl (k := 0) rfl (by rw [ey_15]; rfl) (by decide) rfl (fun ls hl => ?_)
              refine lv_goto (tgt := 54) hx hb dX4_begin_108 (by decide) ?_
              exact ih2 y_15 f_9 f_13 f_7 _ _ _ (z_w (c := 0) (d := 6) h_16 rfl) h_10 h_14 h_8 (by omega) hP hD hS (lv_sub hl [0, 1] rfl)
        exact LP2 7 0 sccf scff scwf _ _ _ (z_w (c := 0) (d := 6) (z_lit (x := 0) (a := 0) (b := 0) rfl) rfl) hsccf hscff hscwf (by decide) hP hD hS (lv_sub hl [0, 1] rfl)
      · skip
        have h_17 : z_in 0 6 v1_1 := z_ltL (Int32.not_le.mp c_1) hv1_1 htwpn rfl
        have h_18 : z_in 1 7 twpn := z_ltR (Int32.not_le.mp c_1) hv1_1 htwpn rfl
        refine lv_aload_n hx hb dX4_begin_31 rfl (lv_at hl 1 rfl) ?_
        refine va_get (D := D) (ci := 4) (v := .ref scp) (C := RX4) (T := TX4) (N := 8) hx hb hts hiX4 hown hK hP 0 rfl rfl 4 (by decide) (hts _ (List.mem_of_getElem? (i := 7) rfl)) (fun _ h9 => h9) rfl dX4_begin_32 ?_
        refine lv_iload_n hx hb dX4_begin_35 rfl (lv_at hl 0 rfl) ?_
        refine lv_aload_n hx hb dX4_begin_36 rfl (lv_at hl 1 rfl) ?_
        refine va_get (D := D) (ci := 4) (v := .ref tw) (C := RX4) (T := TX4) (N := 8) hx hb hts hiX4 hown hK hP 0 rfl rfl 0 (by decide) (hts _ (List.mem_of_getElem? (i := 4) rfl)) (fun _ h9 => h9) rfl dX4_begin_37 ?_
        refine va_get (D := D) (ci := 8) (v := .ref twh) (C := RX8) (T := TX8) (N := 12) hx hb hts hiX8 hown hK hP 5 rfl rfl 4 (by decide) (hts _ (List.mem_of_getElem? (i := 8) rfl)) (fun _ h9 => h9) rfl dX4_begin_40 ?_
        refine lv_iload_n hx hb dX4_begin_43 rfl (lv_at hl 0 rfl) ?_
        refine va_iald hx hb hK hP 12 7 rfl rfl (z_vp h_17 rfl) dX4_begin_44 ?_
        refine lv_topi (fun y_19 ey_19 => ?_)
        have h_20 : z_in 0 4 y_19 := by rw [ey_19]; exact htwhf _
        refine va_iast hx hb hK hP hD hS 1 0 rfl rfl (z_vp h_17 rfl) dX4_begin_45 (fun H locs hP hD hS => ?_)
        have h_22 : z_al 0 4 (upd g1_1 (v1_1 : Int32).toNatClampNeg y_19) := z_alu hg1_1 h_20
        generalize (upd g1_1 (v1_1 : Int32).toNatClampNeg y_19) = f_21 at hP hD h_22
        have hP : va_P D vwCl [(sc, .inr (4, [.ref tw, .int 0, .int 0, .int 0, .ref scp, .ref scw, .ref scc, .ref scf])), (scp, .inl (scpt, 7, .inl f_21)), (scw, .inl (scwt, 6, .inl scwf)), (scc, .inl (scct, 6, .inl sccf)), (scf, .inl (scft, 6, .inl scff)), (tw, .inr (8, [.ref twl, .ref twp, .ref twu, .int twe, .ref twh, .ref tws, .ref twg, .int twm, .ref two, .ref twd, .ref twq, .int twr])), (twl, .inr (2, [.ref twlc, .int twln])), (twlc, .inl (twlct, 5, .inr (.inl twlcf))), (twp, .inr (2, [.ref twpc, .int twpn])), (twpc, .inl (twpct, 7, .inr (.inl twpcf))), (twu, .inr (2, [.ref twuc, .int twun])), (twuc, .inl (twuct, 6, .inr (.inl twucf))), (twh, .inl (twht, 7, .inl twhf)), (tws, .inl (twst, 6, .inl twsf)), (twg, .inl (twgt, 6, .inl twgf)), (two, .inl (twot, 14, .inl twof)), (twd, .inl (twdt, 14, .inl twdf)), (twq, .inl (twqt, 14, .inl twqf))] H := hP
        have hD : va_D A [(sc, .inr (4, [.ref tw, .int 0, .int 0, .int 0, .ref scp, .ref scw, .ref scc, .ref scf])), (scp, .inl (scpt, 7, .inl f_21)), (scw, .inl (scwt, 6, .inl scwf)), (scc, .inl (scct, 6, .inl sccf)), (scf, .inl (scft, 6, .inl scff)), (tw, .inr (8, [.ref twl, .ref twp, .ref twu, .int twe, .ref twh, .ref tws, .ref twg, .int twm, .ref two, .ref twd, .ref twq, .int twr])), (twl, .inr (2, [.ref twlc, .int twln])), (twlc, .inl (twlct, 5, .inr (.inl twlcf))), (twp, .inr (2, [.ref twpc, .int twpn])), (twpc, .inl (twpct, 7, .inr (.inl twpcf))), (twu, .inr (2, [.ref twuc, .int twun])), (twuc, .inl (twuct, 6, .inr (.inl twucf))), (twh, .inl (twht, 7, .inl twhf)), (tws, .inl (twst, 6, .inl twsf)), (twg, .inl (twgt, 6, .inl twgf)), (two, .inl (twot, 14, .inl twof)), (twd, .inl (twdt, 14, .inl twdf)), (twq, .inl (twqt, 14, .inl twqf))] := hD
        obtain ⟨y_23, ey_23⟩ : ∃ y : Int32, y = v1_1 + 1 := ⟨_, rfl⟩
        have h_24 : z_in 1 7 y_23 := by rw [ey_23]; exact z_add h_17 (z_lit (x := 1) (a := 1) (b := 1) rfl) rfl rfl
        have ty_23 : y_23.toInt = v1_1.toInt + 1 := by rw [ey_23]; exact z_addT h_17 (z_lit (x := 1) (a := 1) (b := 1) rfl) rfl
        refine lv_iinc (v := y_23) (lv' := [(1, .int y_23), (0, .ref sc)]) hx hb dX4_begin_46 hl (k := 0) rfl (by rw [ey_23]; rfl) (by decide) rfl (fun ls hl => ?_)
        refine lv_goto (tgt := 17) hx hb dX4_begin_49 (by decide) ?_
        exact ih1 y_23 f_21 _ _ _ (z_w (c := 0) (d := 7) h_24 rfl) h_22 (by omega) hP hD hS (lv_sub hl [0, 1] rfl)
  exact LP1 8 0 scpf _ _ _ (z_w (c := 0) (d := 7) (z_lit (x := 0) (a := 0) (b := 0) rfl) rfl) hscpf (by decide) hP hD hS (lv_sub hl [0, 1] rfl)

set_option maxHeartbeats 8000000 in
set_option maxRecDepth 100000 in
theorem w_Scene_copyFrom (l : Launch) (D : va_G) (ad : Nat → Nat) (sc : Nat) (scd : Int32) (sch : Int32) (scs : Int32) (scp : Nat) (scpt : ClassId) (scpf : Nat → Int32) (scw : Nat) (scwt : ClassId) (scwf : Nat → Int32) (scc : Nat) (scct : ClassId) (sccf : Nat → Int32) (scf : Nat) (scft : ClassId) (scff : Nat → Int32) (sd : Nat) (sdd : Int32) (sdh : Int32) (sds : Int32) (sdp : Nat) (sdpt : ClassId) (sdpf : Nat → Int32) (sdw : Nat) (sdwt : ClassId) (sdwf : Nat → Int32) (sdc : Nat) (sdct : ClassId) (sdcf : Nat → Int32) (sdf : Nat) (sdft : ClassId) (sdff : Nat → Int32) (tw : Nat) (hscpf : z_al 0 4 scpf) (hscwf : z_al 0 4 scwf) (hsccf : z_al (-1) 6 sccf) (hscff : z_al 0 12 scff) (hsdpf : z_al 0 4 sdpf) (hsdwf : z_al 0 4 sdwf) (hsdcf : z_al (-1) 6 sdcf) (hsdff : z_al 0 12 sdff) : z_Mv l yX4_copyFrom wsX4_copyFrom { frames := 1, cells := 0, slots := 0, locals := 80 } D ad [.ref sc, .ref sd] [(sc, .inr (4, [.ref tw, .int scd, .int sch, .int scs, .ref scp, .ref scw, .ref scc, .ref scf])), (scp, .inl (scpt, 7, .inl scpf)), (scw, .inl (scwt, 6, .inl scwf)), (scc, .inl (scct, 6, .inl sccf)), (scf, .inl (scft, 6, .inl scff)), (sd, .inr (4, [.ref tw, .int sdd, .int sdh, .int sds, .ref sdp, .ref sdw, .ref sdc, .ref sdf])), (sdp, .inl (sdpt, 7, .inl sdpf)), (sdw, .inl (sdwt, 6, .inl sdwf)), (sdc, .inl (sdct, 6, .inl sdcf)), (sdf, .inl (sdft, 6, .inl sdff))] [(scpt, .int), (scwt, .int), (scct, .int), (scft, .int), (sdpt, .int), (sdwt, .int), (sdct, .int), (sdft, .int)] 0 0 (fun u9 => ∃ (x0_1 : Int32) (x0_2 : Int32) (x0_3 : Int32) (x1_f : Nat → Int32) (x2_f : Nat → Int32) (x3_f : Nat → Int32) (x4_f : Nat → Int32), z_al 0 4 x1_f ∧ z_al 0 4 x2_f ∧ z_al (-1) 6 x3_f ∧ z_al 0 12 x4_f ∧ u9 = ([(sc, .inr (4, [.ref tw, .int x0_1, .int x0_2, .int x0_3, .ref scp, .ref scw, .ref scc, .ref scf])), (scp, .inl (scpt, 7, .inl x1_f)), (scw, .inl (scwt, 6, .inl x2_f)), (scc, .inl (scct, 6, .inl x3_f)), (scf, .inl (scft, 6, .inl x4_f)), (sd, .inr (4, [.ref tw, .int sdd, .int sdh, .int sds, .ref sdp, .ref sdw, .ref sdc, .ref sdf])), (sdp, .inl (sdpt, 7, .inl sdpf)), (sdw, .inl (sdwt, 6, .inl sdwf)), (sdc, .inl (sdct, 6, .inl sdcf)), (sdf, .inl (sdft, 6, .inl sdff))], [])) := by
  refine z_ofV (cc := cX4_copyFrom) (maxL := 2) (by decide) rfl (Nat.le_of_ble_eq_true rfl) ?_
  intro p e s m below meth c Q A ls hx hb hml hown hts hin hK hP hD hA hE hO hS hl hret
  have hown : s.vm.findClass RX4 = some m.cls := hown
  have hiX4 : ∀ w ∈ wsX40, w ∈ wsX4_copyFrom := fun _ h9 => List.mem_cons_of_mem _ (List.mem_append_right _ h9)
  have hl : lv_has ls 2 [(0, .ref sc), (1, .ref sd)] := hl
  refine lv_aload_n hx hb dX4_copyFrom_0 rfl (lv_at hl 0 rfl) ?_
  refine lv_aload_n hx hb dX4_copyFrom_1 rfl (lv_at hl 1 rfl) ?_
  refine va_get (D := D) (ci := 4) (v := .int sdd) (C := RX4) (T := TX4) (N := 8) hx hb hts hiX4 hown hK hP 5 rfl rfl 1 (by decide) (hts _ (List.mem_of_getElem? (i := 1) rfl)) (fun _ h9 => h9) rfl dX4_copyFrom_2 ?_
  refine va_put (D := D) (ci := 4) (v := .int sdd) (ty := tyX4 1) (C := RX4) (T := TX4) (N := 8) hx hb hts hiX4 tyX4 tyX4_ok nmX4 hown hK hP hD hS 0 rfl rfl 1 (by decide) (hts _ (List.mem_of_getElem? (i := 1) rfl)) (fun _ h9 => h9) rfl (tyX4_ok 1 (by decide)) rfl rfl (Nat.le_of_ble_eq_true rfl) dX4_copyFrom_5 (fun H locs hP hD hS => ?_)
  have hP : va_P D vwCl [(sc, .inr (4, [.ref tw, .int sdd, .int sch, .int scs, .ref scp, .ref scw, .ref scc, .ref scf])), (scp, .inl (scpt, 7, .inl scpf)), (scw, .inl (scwt, 6, .inl scwf)), (scc, .inl (scct, 6, .inl sccf)), (scf, .inl (scft, 6, .inl scff)), (sd, .inr (4, [.ref tw, .int sdd, .int sdh, .int sds, .ref sdp, .ref sdw, .ref sdc, .ref sdf])), (sdp, .inl (sdpt, 7, .inl sdpf)), (sdw, .inl (sdwt, 6, .inl sdwf)), (sdc, .inl (sdct, 6, .inl sdcf)), (sdf, .inl (sdft, 6, .inl sdff))] H := hP
  have hD : va_D A [(sc, .inr (4, [.ref tw, .int sdd, .int sch, .int scs, .ref scp, .ref scw, .ref scc, .ref scf])), (scp, .inl (scpt, 7, .inl scpf)), (scw, .inl (scwt, 6, .inl scwf)), (scc, .inl (scct, 6, .inl sccf)), (scf, .inl (scft, 6, .inl scff)), (sd, .inr (4, [.ref tw, .int sdd, .int sdh, .int sds, .ref sdp, .ref sdw, .ref sdc, .ref sdf])), (sdp, .inl (sdpt, 7, .inl sdpf)), (sdw, .inl (sdwt, 6, .inl sdwf)), (sdc, .inl (sdct, 6, .inl sdcf)), (sdf, .inl (sdft, 6, .inl sdff))] := hD
  refine lv_aload_n hx hb dX4_copyFrom_8 rfl (lv_at hl 0 rfl) ?_
  refine lv_aload_n hx hb dX4_copyFrom_9 rfl (lv_at hl 1 rfl) ?_
  refine va_get (D := D) (ci := 4) (v := .int sdh) (C := RX4) (T := TX4) (N := 8) hx hb hts hiX4 hown hK hP 5 rfl rfl 2 (by decide) (hts _ (List.mem_of_getElem? (i := 2) rfl)) (fun _ h9 => h9) rfl dX4_copyFrom_10 ?_
  refine va_put (D := D) (ci := 4) (v := .int sdh) (ty := tyX4 2) (C := RX4) (T := TX4) (N := 8) hx hb hts hiX4 tyX4 tyX4_ok nmX4 hown hK hP hD hS 0 rfl rfl 2 (by decide) (hts _ (List.mem_of_getElem? (i := 2) rfl)) (fun _ h9 => h9) rfl (tyX4_ok 2 (by decide)) rfl rfl (Nat.le_of_ble_eq_true rfl) dX4_copyFrom_13 (fun H locs hP hD hS => ?_)
  have hP : va_P D vwCl [(sc, .inr (4, [.ref tw, .int sdd, .int sdh, .int scs, .ref scp, .ref scw, .ref scc, .ref scf])), (scp, .inl (scpt, 7, .inl scpf)), (scw, .inl (scwt, 6, .inl scwf)), (scc, .inl (scct, 6, .inl sccf)), (scf, .inl (scft, 6, .inl scff)), (sd, .inr (4, [.ref tw, .int sdd, .int sdh, .int sds, .ref sdp, .ref sdw, .ref sdc, .ref sdf])), (sdp, .inl (sdpt, 7, .inl sdpf)), (sdw, .inl (sdwt, 6, .inl sdwf)), (sdc, .inl (sdct, 6, .inl sdcf)), (sdf, .inl (sdft, 6, .inl sdff))] H := hP
  have hD : va_D A [(sc, .inr (4, [.ref tw, .int sdd, .int sdh, .int scs, .ref scp, .ref scw, .ref scc, .ref scf])), (scp, .inl (scpt, 7, .inl scpf)), (scw, .inl (scwt, 6, .inl scwf)), (scc, .inl (scct, 6, .inl sccf)), (scf, .inl (scft, 6, .inl scff)), (sd, .inr (4, [.ref tw, .int sdd, .int sdh, .int sds, .ref sdp, .ref sdw, .ref sdc, .ref sdf])), (sdp, .inl (sdpt, 7, .inl sdpf)), (sdw, .inl (sdwt, 6, .inl sdwf)), (sdc, .inl (sdct, 6, .inl sdcf)), (sdf, .inl (sdft, 6, .inl sdff))] := hD
  refine lv_aload_n hx hb dX4_copyFrom_16 rfl (lv_at hl 0 rfl) ?_
  refine lv_aload_n hx hb dX4_copyFrom_17 rfl (lv_at hl 1 rfl) ?_
  refine va_get (D := D) (ci := 4) (v := .int sds) (C := RX4) (T := TX4) (N := 8) hx hb hts hiX4 hown hK hP 5 rfl rfl 3 (by decide) (hts _ (List.mem_of_getElem? (i := 3) rfl)) (fun _ h9 => h9) rfl dX4_copyFrom_18 ?_
  refine va_put (D := D) (ci := 4) (v := .int sds) (ty := tyX4 3) (C := RX4) (T := TX4) (N := 8) hx hb hts hiX4 tyX4 tyX4_ok nmX4 hown hK hP hD hS 0 rfl rfl 3 (by decide) (hts _ (List.mem_of_getElem? (i := 3) rfl)) (fun _ h9 => h9) rfl (tyX4_ok 3 (by decide)) rfl rfl (Nat.le_of_ble_eq_true rfl) dX4_copyFrom_21 (fun H locs hP hD hS => ?_)
  have hP : va_P D vwCl [(sc, .inr (4, [.ref tw, .int sdd, .int sdh, .int sds, .ref scp, .ref scw, .ref scc, .ref scf])), (scp, .inl (scpt, 7, .inl scpf)), (scw, .inl (scwt, 6, .inl scwf)), (scc, .inl (scct, 6, .inl sccf)), (scf, .inl (scft, 6, .inl scff)), (sd, .inr (4, [.ref tw, .int sdd, .int sdh, .int sds, .ref sdp, .ref sdw, .ref sdc, .ref sdf])), (sdp, .inl (sdpt, 7, .inl sdpf)), (sdw, .inl (sdwt, 6, .inl sdwf)), (sdc, .inl (sdct, 6, .inl sdcf)), (sdf, .inl (sdft, 6, .inl sdff))] H := hP
  have hD : va_D A [(sc, .inr (4, [.ref tw, .int sdd, .int sdh, .int sds, .ref scp, .ref scw, .ref scc, .ref scf])), (scp, .inl (scpt, 7, .inl scpf)), (scw, .inl (scwt, 6, .inl scwf)), (scc, .inl (scct, 6, .inl sccf)), (scf, .inl (scft, 6, .inl scff)), (sd, .inr (4, [.ref tw, .int sdd, .int sdh, .int sds, .ref sdp, .ref sdw, .ref sdc, .ref sdf])), (sdp, .inl (sdpt, 7, .inl sdpf)), (sdw, .inl (sdwt, 6, .inl sdwf)), (sdc, .inl (sdct, 6, .inl sdcf)), (sdf, .inl (sdft, 6, .inl sdff))] := hD
  refine lv_aload_n hx hb dX4_copyFrom_24 rfl (lv_at hl 1 rfl) ?_
  refine va_get (D := D) (ci := 4) (v := .ref sdp) (C := RX4) (T := TX4) (N := 8) hx hb hts hiX4 hown hK hP 5 rfl rfl 4 (by decide) (hts _ (List.mem_of_getElem? (i := 4) rfl)) (fun _ h9 => h9) rfl dX4_copyFrom_25 ?_
  refine lv_iconst (v := 0) hx hb dX4_copyFrom_28 (by decide) ?_
  refine lv_aload_n hx hb dX4_copyFrom_29 rfl (lv_at hl 0 rfl) ?_
  refine va_get (D := D) (ci := 4) (v := .ref scp) (C := RX4) (T := TX4) (N := 8) hx hb hts hiX4 hown hK hP 0 rfl rfl 4 (by decide) (hts _ (List.mem_of_getElem? (i := 4) rfl)) (fun _ h9 => h9) rfl dX4_copyFrom_30 ?_
  refine lv_iconst (v := 0) hx hb dX4_copyFrom_33 (by decide) ?_
  refine lv_bipush (v := 7) hx hb dX4_copyFrom_34 (by decide) ?_
  refine va_copyi hx hb (by rw [hml]; exact hl.1.symm) hown (hts _ (List.mem_of_getElem? (i := 5) rfl)) (hts _ (List.mem_of_getElem? (i := 6) rfl)) (hts _ (List.mem_of_getElem? (i := 7) rfl)) (hts _ (List.mem_of_getElem? (i := 8) rfl)) hK hP hD hS 6 1 4 0 rfl rfl rfl rfl rfl (by decide) (by decide) (by decide) (by decide) (by decide) (fun _ _ => rfl) (Nat.le_of_ble_eq_true rfl) (Nat.le_of_ble_eq_true rfl) dX4_copyFrom_36 (fun H locs hP hD hS => ?_)
  have hP : va_P D vwCl [(sc, .inr (4, [.ref tw, .int sdd, .int sdh, .int sds, .ref scp, .ref scw, .ref scc, .ref scf])), (scp, .inl (scpt, 7, .inl (va_cpy sdpf scpf 0 0 7))), (scw, .inl (scwt, 6, .inl scwf)), (scc, .inl (scct, 6, .inl sccf)), (scf, .inl (scft, 6, .inl scff)), (sd, .inr (4, [.ref tw, .int sdd, .int sdh, .int sds, .ref sdp, .ref sdw, .ref sdc, .ref sdf])), (sdp, .inl (sdpt, 7, .inl sdpf)), (sdw, .inl (sdwt, 6, .inl sdwf)), (sdc, .inl (sdct, 6, .inl sdcf)), (sdf, .inl (sdft, 6, .inl sdff))] H := hP
  have hD : va_D A [(sc, .inr (4, [.ref tw, .int sdd, .int sdh, .int sds, .ref scp, .ref scw, .ref scc, .ref scf])), (scp, .inl (scpt, 7, .inl (va_cpy sdpf scpf 0 0 7))), (scw, .inl (scwt, 6, .inl scwf)), (scc, .inl (scct, 6, .inl sccf)), (scf, .inl (scft, 6, .inl scff)), (sd, .inr (4, [.ref tw, .int sdd, .int sdh, .int sds, .ref sdp, .ref sdw, .ref sdc, .ref sdf])), (sdp, .inl (sdpt, 7, .inl sdpf)), (sdw, .inl (sdwt, 6, .inl sdwf)), (sdc, .inl (sdct, 6, .inl sdcf)), (sdf, .inl (sdft, 6, .inl sdff))] := hD
  have h_2 : z_al 0 4 (va_cpy sdpf scpf 0 0 7) := z_alc hsdpf hscpf
  generalize (va_cpy sdpf scpf 0 0 7) = f_1 at hP hD h_2
  refine lv_aload_n hx hb dX4_copyFrom_39 rfl (lv_at hl 1 rfl) ?_
  refine va_get (D := D) (ci := 4) (v := .ref sdw) (C := RX4) (T := TX4) (N := 8) hx hb hts hiX4 hown hK hP 5 rfl rfl 5 (by decide) (hts _ (List.mem_of_getElem? (i := 9) rfl)) (fun _ h9 => h9) rfl dX4_copyFrom_40 ?_
  refine lv_iconst (v := 0) hx hb dX4_copyFrom_43 (by decide) ?_
  refine lv_aload_n hx hb dX4_copyFrom_44 rfl (lv_at hl 0 rfl) ?_
  refine va_get (D := D) (ci := 4) (v := .ref scw) (C := RX4) (T := TX4) (N := 8) hx hb hts hiX4 hown hK hP 0 rfl rfl 5 (by decide) (hts _ (List.mem_of_getElem? (i := 9) rfl)) (fun _ h9 => h9) rfl dX4_copyFrom_45 ?_
  refine lv_iconst (v := 0) hx hb dX4_copyFrom_48 (by decide) ?_
  refine lv_bipush (v := 6) hx hb dX4_copyFrom_49 (by decide) ?_
  refine va_copyi hx hb (by rw [hml]; exact hl.1.symm) hown (hts _ (List.mem_of_getElem? (i := 5) rfl)) (hts _ (List.mem_of_getElem? (i := 6) rfl)) (hts _ (List.mem_of_getElem? (i := 7) rfl)) (hts _ (List.mem_of_getElem? (i := 8) rfl)) hK hP hD hS 7 2 5 1 rfl rfl rfl rfl rfl (by decide) (by decide) (by decide) (by decide) (by decide) (fun _ _ => rfl) (Nat.le_of_ble_eq_true rfl) (Nat.le_of_ble_eq_true rfl) dX4_copyFrom_51 (fun H locs hP hD hS => ?_)
  have hP : va_P D vwCl [(sc, .inr (4, [.ref tw, .int sdd, .int sdh, .int sds, .ref scp, .ref scw, .ref scc, .ref scf])), (scp, .inl (scpt, 7, .inl f_1)), (scw, .inl (scwt, 6, .inl (va_cpy sdwf scwf 0 0 6))), (scc, .inl (scct, 6, .inl sccf)), (scf, .inl (scft, 6, .inl scff)), (sd, .inr (4, [.ref tw, .int sdd, .int sdh, .int sds, .ref sdp, .ref sdw, .ref sdc, .ref sdf])), (sdp, .inl (sdpt, 7, .inl sdpf)), (sdw, .inl (sdwt, 6, .inl sdwf)), (sdc, .inl (sdct, 6, .inl sdcf)), (sdf, .inl (sdft, 6, .inl sdff))] H := hP
  have hD : va_D A [(sc, .inr (4, [.ref tw, .int sdd, .int sdh, .int sds, .ref scp, .ref scw, .ref scc, .ref scf])), (scp, .inl (scpt, 7, .inl f_1)), (scw, .inl (scwt, 6, .inl (va_cpy sdwf scwf 0 0 6))), (scc, .inl (scct, 6, .inl sccf)), (scf, .inl (scft, 6, .inl scff)), (sd, .inr (4, [.ref tw, .int sdd, .int sdh, .int sds, .ref sdp, .ref sdw, .ref sdc, .ref sdf])), (sdp, .inl (sdpt, 7, .inl sdpf)), (sdw, .inl (sdwt, 6, .inl sdwf)), (sdc, .inl (sdct, 6, .inl sdcf)), (sdf, .inl (sdft, 6, .inl sdff))] := hD
  have h_4 : z_al 0 4 (va_cpy sdwf scwf 0 0 6) := z_alc hsdwf hscwf
  generalize (va_cpy sdwf scwf 0 0 6) = f_3 at hP hD h_4
  refine lv_aload_n hx hb dX4_copyFrom_54 rfl (lv_at hl 1 rfl) ?_
  refine va_get (D := D) (ci := 4) (v := .ref sdc) (C := RX4) (T := TX4) (N := 8) hx hb hts hiX4 hown hK hP 5 rfl rfl 6 (by decide) (hts _ (List.mem_of_getElem? (i := 10) rfl)) (fun _ h9 => h9) rfl dX4_copyFrom_55 ?_
  refine lv_iconst (v := 0) hx hb dX4_copyFrom_58 (by decide) ?_
  refine lv_aload_n hx hb dX4_copyFrom_59 rfl (lv_at hl 0 rfl) ?_
  refine va_get (D := D) (ci := 4) (v := .ref scc) (C := RX4) (T := TX4) (N := 8) hx hb hts hiX4 hown hK hP 0 rfl rfl 6 (by decide) (hts _ (List.mem_of_getElem? (i := 10) rfl)) (fun _ h9 => h9) rfl dX4_copyFrom_60 ?_
  refine lv_iconst (v := 0) hx hb dX4_copyFrom_63 (by decide) ?_
  refine lv_bipush (v := 6) hx hb dX4_copyFrom_64 (by decide) ?_
  refine va_copyi hx hb (by rw [hml]; exact hl.1.symm) hown (hts _ (List.mem_of_getElem? (i := 5) rfl)) (hts _ (List.mem_of_getElem? (i := 6) rfl)) (hts _ (List.mem_of_getElem? (i := 7) rfl)) (hts _ (List.mem_of_getElem? (i := 8) rfl)) hK hP hD hS 8 3 6 2 rfl rfl rfl rfl rfl (by decide) (by decide) (by decide) (by decide) (by decide) (fun _ _ => rfl) (Nat.le_of_ble_eq_true rfl) (Nat.le_of_ble_eq_true rfl) dX4_copyFrom_66 (fun H locs hP hD hS => ?_)
  have hP : va_P D vwCl [(sc, .inr (4, [.ref tw, .int sdd, .int sdh, .int sds, .ref scp, .ref scw, .ref scc, .ref scf])), (scp, .inl (scpt, 7, .inl f_1)), (scw, .inl (scwt, 6, .inl f_3)), (scc, .inl (scct, 6, .inl (va_cpy sdcf sccf 0 0 6))), (scf, .inl (scft, 6, .inl scff)), (sd, .inr (4, [.ref tw, .int sdd, .int sdh, .int sds, .ref sdp, .ref sdw, .ref sdc, .ref sdf])), (sdp, .inl (sdpt, 7, .inl sdpf)), (sdw, .inl (sdwt, 6, .inl sdwf)), (sdc, .inl (sdct, 6, .inl sdcf)), (sdf, .inl (sdft, 6, .inl sdff))] H := hP
  have hD : va_D A [(sc, .inr (4, [.ref tw, .int sdd, .int sdh, .int sds, .ref scp, .ref scw, .ref scc, .ref scf])), (scp, .inl (scpt, 7, .inl f_1)), (scw, .inl (scwt, 6, .inl f_3)), (scc, .inl (scct, 6, .inl (va_cpy sdcf sccf 0 0 6))), (scf, .inl (scft, 6, .inl scff)), (sd, .inr (4, [.ref tw, .int sdd, .int sdh, .int sds, .ref sdp, .ref sdw, .ref sdc, .ref sdf])), (sdp, .inl (sdpt, 7, .inl sdpf)), (sdw, .inl (sdwt, 6, .inl sdwf)), (sdc, .inl (sdct, 6, .inl sdcf)), (sdf, .inl (sdft, 6, .inl sdff))] := hD
  have h_6 : z_al (-1) 6 (va_cpy sdcf sccf 0 0 6) := z_alc hsdcf hsccf
  generalize (va_cpy sdcf sccf 0 0 6) = f_5 at hP hD h_6
  refine lv_aload_n hx hb dX4_copyFrom_69 rfl (lv_at hl 1 rfl) ?_
  refine va_get (D := D) (ci := 4) (v := .ref sdf) (C := RX4) (T := TX4) (N := 8) hx hb hts hiX4 hown hK hP 5 rfl rfl 7 (by decide) (hts _ (List.mem_of_getElem? (i := 11) rfl)) (fun _ h9 => h9) rfl dX4_copyFrom_70 ?_
  refine lv_iconst (v := 0) hx hb dX4_copyFrom_73 (by decide) ?_
  refine lv_aload_n hx hb dX4_copyFrom_74 rfl (lv_at hl 0 rfl) ?_
  refine va_get (D := D) (ci := 4) (v := .ref scf) (C := RX4) (T := TX4) (N := 8) hx hb hts hiX4 hown hK hP 0 rfl rfl 7 (by decide) (hts _ (List.mem_of_getElem? (i := 11) rfl)) (fun _ h9 => h9) rfl dX4_copyFrom_75 ?_
  refine lv_iconst (v := 0) hx hb dX4_copyFrom_78 (by decide) ?_
  refine lv_bipush (v := 6) hx hb dX4_copyFrom_79 (by decide) ?_
  refine va_copyi hx hb (by rw [hml]; exact hl.1.symm) hown (hts _ (List.mem_of_getElem? (i := 5) rfl)) (hts _ (List.mem_of_getElem? (i := 6) rfl)) (hts _ (List.mem_of_getElem? (i := 7) rfl)) (hts _ (List.mem_of_getElem? (i := 8) rfl)) hK hP hD hS 9 4 7 3 rfl rfl rfl rfl rfl (by decide) (by decide) (by decide) (by decide) (by decide) (fun _ _ => rfl) (Nat.le_of_ble_eq_true rfl) (Nat.le_of_ble_eq_true rfl) dX4_copyFrom_81 (fun H locs hP hD hS => ?_)
  have hP : va_P D vwCl [(sc, .inr (4, [.ref tw, .int sdd, .int sdh, .int sds, .ref scp, .ref scw, .ref scc, .ref scf])), (scp, .inl (scpt, 7, .inl f_1)), (scw, .inl (scwt, 6, .inl f_3)), (scc, .inl (scct, 6, .inl f_5)), (scf, .inl (scft, 6, .inl (va_cpy sdff scff 0 0 6))), (sd, .inr (4, [.ref tw, .int sdd, .int sdh, .int sds, .ref sdp, .ref sdw, .ref sdc, .ref sdf])), (sdp, .inl (sdpt, 7, .inl sdpf)), (sdw, .inl (sdwt, 6, .inl sdwf)), (sdc, .inl (sdct, 6, .inl sdcf)), (sdf, .inl (sdft, 6, .inl sdff))] H := hP
  have hD : va_D A [(sc, .inr (4, [.ref tw, .int sdd, .int sdh, .int sds, .ref scp, .ref scw, .ref scc, .ref scf])), (scp, .inl (scpt, 7, .inl f_1)), (scw, .inl (scwt, 6, .inl f_3)), (scc, .inl (scct, 6, .inl f_5)), (scf, .inl (scft, 6, .inl (va_cpy sdff scff 0 0 6))), (sd, .inr (4, [.ref tw, .int sdd, .int sdh, .int sds, .ref sdp, .ref sdw, .ref sdc, .ref sdf])), (sdp, .inl (sdpt, 7, .inl sdpf)), (sdw, .inl (sdwt, 6, .inl sdwf)), (sdc, .inl (sdct, 6, .inl sdcf)), (sdf, .inl (sdft, 6, .inl sdff))] := hD
  have h_8 : z_al 0 12 (va_cpy sdff scff 0 0 6) := z_alc hsdff hscff
  generalize (va_cpy sdff scff 0 0 6) = f_7 at hP hD h_8
  exact hret ([(sc, .inr (4, [.ref tw, .int sdd, .int sdh, .int sds, .ref scp, .ref scw, .ref scc, .ref scf])), (scp, .inl (scpt, 7, .inl f_1)), (scw, .inl (scwt, 6, .inl f_3)), (scc, .inl (scct, 6, .inl f_5)), (scf, .inl (scft, 6, .inl f_7)), (sd, .inr (4, [.ref tw, .int sdd, .int sdh, .int sds, .ref sdp, .ref sdw, .ref sdc, .ref sdf])), (sdp, .inl (sdpt, 7, .inl sdpf)), (sdw, .inl (sdwt, 6, .inl sdwf)), (sdc, .inl (sdct, 6, .inl sdcf)), (sdf, .inl (sdft, 6, .inl sdff))], []) _ _ _ _ dX4_copyFrom_84 ⟨sdd, sdh, sds, f_1, f_3, f_5, f_7, h_2, h_4, h_6, h_8, rfl⟩ hP (hK.sub [] rfl) hD hS

set_option maxHeartbeats 8000000 in
set_option maxRecDepth 100000 in
theorem w_Scene_copyFrom2 (l : Launch) (D : va_G) (ad : Nat → Nat) (sc : Nat) (scd : Int32) (sch : Int32) (scs : Int32) (scp : Nat) (scpt : ClassId) (scpf : Nat → Int32) (scw : Nat) (scwt : ClassId) (scwf : Nat → Int32) (scc : Nat) (scct : ClassId) (sccf : Nat → Int32) (scf : Nat) (scft : ClassId) (scff : Nat → Int32) (sd : Nat) (sdd : Int32) (sdh : Int32) (sds : Int32) (sdp : Nat) (sdpt : ClassId) (sdpf : Nat → Int32) (sdw : Nat) (sdwt : ClassId) (sdwf : Nat → Int32) (sdc : Nat) (sdct : ClassId) (sdcf : Nat → Int32) (sdf : Nat) (sdft : ClassId) (sdff : Nat → Int32) (tw : Nat) (tx : Nat) (hscpf : z_al 0 4 scpf) (hscwf : z_al 0 4 scwf) (hsccf : z_al (-1) 6 sccf) (hscff : z_al 0 12 scff) (hsdpf : z_al 0 4 sdpf) (hsdwf : z_al 0 4 sdwf) (hsdcf : z_al (-1) 6 sdcf) (hsdff : z_al 0 12 sdff) : z_Mv l yX4_copyFrom wsX4_copyFrom { frames := 1, cells := 0, slots := 0, locals := 80 } D ad [.ref sc, .ref sd] [(sc, .inr (4, [.ref tw, .int scd, .int sch, .int scs, .ref scp, .ref scw, .ref scc, .ref scf])), (scp, .inl (scpt, 7, .inl scpf)), (scw, .inl (scwt, 6, .inl scwf)), (scc, .inl (scct, 6, .inl sccf)), (scf, .inl (scft, 6, .inl scff)), (sd, .inr (4, [.ref tx, .int sdd, .int sdh, .int sds, .ref sdp, .ref sdw, .ref sdc, .ref sdf])), (sdp, .inl (sdpt, 7, .inl sdpf)), (sdw, .inl (sdwt, 6, .inl sdwf)), (sdc, .inl (sdct, 6, .inl sdcf)), (sdf, .inl (sdft, 6, .inl sdff))] [(scpt, .int), (scwt, .int), (scct, .int), (scft, .int), (sdpt, .int), (sdwt, .int), (sdct, .int), (sdft, .int)] 0 0 (fun u9 => ∃ (x0_1 : Int32) (x0_2 : Int32) (x0_3 : Int32) (x1_f : Nat → Int32) (x2_f : Nat → Int32) (x3_f : Nat → Int32) (x4_f : Nat → Int32), z_al 0 4 x1_f ∧ z_al 0 4 x2_f ∧ z_al (-1) 6 x3_f ∧ z_al 0 12 x4_f ∧ u9 = ([(sc, .inr (4, [.ref tw, .int x0_1, .int x0_2, .int x0_3, .ref scp, .ref scw, .ref scc, .ref scf])), (scp, .inl (scpt, 7, .inl x1_f)), (scw, .inl (scwt, 6, .inl x2_f)), (scc, .inl (scct, 6, .inl x3_f)), (scf, .inl (scft, 6, .inl x4_f)), (sd, .inr (4, [.ref tx, .int sdd, .int sdh, .int sds, .ref sdp, .ref sdw, .ref sdc, .ref sdf])), (sdp, .inl (sdpt, 7, .inl sdpf)), (sdw, .inl (sdwt, 6, .inl sdwf)), (sdc, .inl (sdct, 6, .inl sdcf)), (sdf, .inl (sdft, 6, .inl sdff))], [])) := by
  refine z_ofV (cc := cX4_copyFrom) (maxL := 2) (by decide) rfl (Nat.le_of_ble_eq_true rfl) ?_
  intro p e s m below meth c Q A ls hx hb hml hown hts hin hK hP hD hA hE hO hS hl hret
  have hown : s.vm.findClass RX4 = some m.cls := hown
  have hiX4 : ∀ w ∈ wsX40, w ∈ wsX4_copyFrom := fun _ h9 => List.mem_cons_of_mem _ (List.mem_append_right _ h9)
  have hl : lv_has ls 2 [(0, .ref sc), (1, .ref sd)] := hl
  refine lv_aload_n hx hb dX4_copyFrom_0 rfl (lv_at hl 0 rfl) ?_
  refine lv_aload_n hx hb dX4_copyFrom_1 rfl (lv_at hl 1 rfl) ?_
  refine va_get (D := D) (ci := 4) (v := .int sdd) (C := RX4) (T := TX4) (N := 8) hx hb hts hiX4 hown hK hP 5 rfl rfl 1 (by decide) (hts _ (List.mem_of_getElem? (i := 1) rfl)) (fun _ h9 => h9) rfl dX4_copyFrom_2 ?_
  refine va_put (D := D) (ci := 4) (v := .int sdd) (ty := tyX4 1) (C := RX4) (T := TX4) (N := 8) hx hb hts hiX4 tyX4 tyX4_ok nmX4 hown hK hP hD hS 0 rfl rfl 1 (by decide) (hts _ (List.mem_of_getElem? (i := 1) rfl)) (fun _ h9 => h9) rfl (tyX4_ok 1 (by decide)) rfl rfl (Nat.le_of_ble_eq_true rfl) dX4_copyFrom_5 (fun H locs hP hD hS => ?_)
  have hP : va_P D vwCl [(sc, .inr (4, [.ref tw, .int sdd, .int sch, .int scs, .ref scp, .ref scw, .ref scc, .ref scf])), (scp, .inl (scpt, 7, .inl scpf)), (scw, .inl (scwt, 6, .inl scwf)), (scc, .inl (scct, 6, .inl sccf)), (scf, .inl (scft, 6, .inl scff)), (sd, .inr (4, [.ref tx, .int sdd, .int sdh, .int sds, .ref sdp, .ref sdw, .ref sdc, .ref sdf])), (sdp, .inl (sdpt, 7, .inl sdpf)), (sdw, .inl (sdwt, 6, .inl sdwf)), (sdc, .inl (sdct, 6, .inl sdcf)), (sdf, .inl (sdft, 6, .inl sdff))] H := hP
  have hD : va_D A [(sc, .inr (4, [.ref tw, .int sdd, .int sch, .int scs, .ref scp, .ref scw, .ref scc, .ref scf])), (scp, .inl (scpt, 7, .inl scpf)), (scw, .inl (scwt, 6, .inl scwf)), (scc, .inl (scct, 6, .inl sccf)), (scf, .inl (scft, 6, .inl scff)), (sd, .inr (4, [.ref tx, .int sdd, .int sdh, .int sds, .ref sdp, .ref sdw, .ref sdc, .ref sdf])), (sdp, .inl (sdpt, 7, .inl sdpf)), (sdw, .inl (sdwt, 6, .inl sdwf)), (sdc, .inl (sdct, 6, .inl sdcf)), (sdf, .inl (sdft, 6, .inl sdff))] := hD
  refine lv_aload_n hx hb dX4_copyFrom_8 rfl (lv_at hl 0 rfl) ?_
  refine lv_aload_n hx hb dX4_copyFrom_9 rfl (lv_at hl 1 rfl) ?_
  refine va_get (D := D) (ci := 4) (v := .int sdh) (C := RX4) (T := TX4) (N := 8) hx hb hts hiX4 hown hK hP 5 rfl rfl 2 (by decide) (hts _ (List.mem_of_getElem? (i := 2) rfl)) (fun _ h9 => h9) rfl dX4_copyFrom_10 ?_
  refine va_put (D := D) (ci := 4) (v := .int sdh) (ty := tyX4 2) (C := RX4) (T := TX4) (N := 8) hx hb hts hiX4 tyX4 tyX4_ok nmX4 hown hK hP hD hS 0 rfl rfl 2 (by decide) (hts _ (List.mem_of_getElem? (i := 2) rfl)) (fun _ h9 => h9) rfl (tyX4_ok 2 (by decide)) rfl rfl (Nat.le_of_ble_eq_true rfl) dX4_copyFrom_13 (fun H locs hP hD hS => ?_)
  have hP : va_P D vwCl [(sc, .inr (4, [.ref tw, .int sdd, .int sdh, .int scs, .ref scp, .ref scw, .ref scc, .ref scf])), (scp, .inl (scpt, 7, .inl scpf)), (scw, .inl (scwt, 6, .inl scwf)), (scc, .inl (scct, 6, .inl sccf)), (scf, .inl (scft, 6, .inl scff)), (sd, .inr (4, [.ref tx, .int sdd, .int sdh, .int sds, .ref sdp, .ref sdw, .ref sdc, .ref sdf])), (sdp, .inl (sdpt, 7, .inl sdpf)), (sdw, .inl (sdwt, 6, .inl sdwf)), (sdc, .inl (sdct, 6, .inl sdcf)), (sdf, .inl (sdft, 6, .inl sdff))] H := hP
  have hD : va_D A [(sc, .inr (4, [.ref tw, .int sdd, .int sdh, .int scs, .ref scp, .ref scw, .ref scc, .ref scf])), (scp, .inl (scpt, 7, .inl scpf)), (scw, .inl (scwt, 6, .inl scwf)), (scc, .inl (scct, 6, .inl sccf)), (scf, .inl (scft, 6, .inl scff)), (sd, .inr (4, [.ref tx, .int sdd, .int sdh, .int sds, .ref sdp, .ref sdw, .ref sdc, .ref sdf])), (sdp, .inl (sdpt, 7, .inl sdpf)), (sdw, .inl (sdwt, 6, .inl sdwf)), (sdc, .inl (sdct, 6, .inl sdcf)), (sdf, .inl (sdft, 6, .inl sdff))] := hD
  refine lv_aload_n hx hb dX4_copyFrom_16 rfl (lv_at hl 0 rfl) ?_
  refine lv_aload_n hx hb dX4_copyFrom_17 rfl (lv_at hl 1 rfl) ?_
  refine va_get (D := D) (ci := 4) (v := .int sds) (C := RX4) (T := TX4) (N := 8) hx hb hts hiX4 hown hK hP 5 rfl rfl 3 (by decide) (hts _ (List.mem_of_getElem? (i := 3) rfl)) (fun _ h9 => h9) rfl dX4_copyFrom_18 ?_
  refine va_put (D := D) (ci := 4) (v := .int sds) (ty := tyX4 3) (C := RX4) (T := TX4) (N := 8) hx hb hts hiX4 tyX4 tyX4_ok nmX4 hown hK hP hD hS 0 rfl rfl 3 (by decide) (hts _ (List.mem_of_getElem? (i := 3) rfl)) (fun _ h9 => h9) rfl (tyX4_ok 3 (by decide)) rfl rfl (Nat.le_of_ble_eq_true rfl) dX4_copyFrom_21 (fun H locs hP hD hS => ?_)
  have hP : va_P D vwCl [(sc, .inr (4, [.ref tw, .int sdd, .int sdh, .int sds, .ref scp, .ref scw, .ref scc, .ref scf])), (scp, .inl (scpt, 7, .inl scpf)), (scw, .inl (scwt, 6, .inl scwf)), (scc, .inl (scct, 6, .inl sccf)), (scf, .inl (scft, 6, .inl scff)), (sd, .inr (4, [.ref tx, .int sdd, .int sdh, .int sds, .ref sdp, .ref sdw, .ref sdc, .ref sdf])), (sdp, .inl (sdpt, 7, .inl sdpf)), (sdw, .inl (sdwt, 6, .inl sdwf)), (sdc, .inl (sdct, 6, .inl sdcf)), (sdf, .inl (sdft, 6, .inl sdff))] H := hP
  have hD : va_D A [(sc, .inr (4, [.ref tw, .int sdd, .int sdh, .int sds, .ref scp, .ref scw, .ref scc, .ref scf])), (scp, .inl (scpt, 7, .inl scpf)), (scw, .inl (scwt, 6, .inl scwf)), (scc, .inl (scct, 6, .inl sccf)), (scf, .inl (scft, 6, .inl scff)), (sd, .inr (4, [.ref tx, .int sdd, .int sdh, .int sds, .ref sdp, .ref sdw, .ref sdc, .ref sdf])), (sdp, .inl (sdpt, 7, .inl sdpf)), (sdw, .inl (sdwt, 6, .inl sdwf)), (sdc, .inl (sdct, 6, .inl sdcf)), (sdf, .inl (sdft, 6, .inl sdff))] := hD
  refine lv_aload_n hx hb dX4_copyFrom_24 rfl (lv_at hl 1 rfl) ?_
  refine va_get (D := D) (ci := 4) (v := .ref sdp) (C := RX4) (T := TX4) (N := 8) hx hb hts hiX4 hown hK hP 5 rfl rfl 4 (by decide) (hts _ (List.mem_of_getElem? (i := 4) rfl)) (fun _ h9 => h9) rfl dX4_copyFrom_25 ?_
  refine lv_iconst (v := 0) hx hb dX4_copyFrom_28 (by decide) ?_
  refine lv_aload_n hx hb dX4_copyFrom_29 rfl (lv_at hl 0 rfl) ?_
  refine va_get (D := D) (ci := 4) (v := .ref scp) (C := RX4) (T := TX4) (N := 8) hx hb hts hiX4 hown hK hP 0 rfl rfl 4 (by decide) (hts _ (List.mem_of_getElem? (i := 4) rfl)) (fun _ h9 => h9) rfl dX4_copyFrom_30 ?_
  refine lv_iconst (v := 0) hx hb dX4_copyFrom_33 (by decide) ?_
  refine lv_bipush (v := 7) hx hb dX4_copyFrom_34 (by decide) ?_
  refine va_copyi hx hb (by rw [hml]; exact hl.1.symm) hown (hts _ (List.mem_of_getElem? (i := 5) rfl)) (hts _ (List.mem_of_getElem? (i := 6) rfl)) (hts _ (List.mem_of_getElem? (i := 7) rfl)) (hts _ (List.mem_of_getElem? (i := 8) rfl)) hK hP hD hS 6 1 4 0 rfl rfl rfl rfl rfl (by decide) (by decide) (by decide) (by decide) (by decide) (fun _ _ => rfl) (Nat.le_of_ble_eq_true rfl) (Nat.le_of_ble_eq_true rfl) dX4_copyFrom_36 (fun H locs hP hD hS => ?_)
  have hP : va_P D vwCl [(sc, .inr (4, [.ref tw, .int sdd, .int sdh, .int sds, .ref scp, .ref scw, .ref scc, .ref scf])), (scp, .inl (scpt, 7, .inl (va_cpy sdpf scpf 0 0 7))), (scw, .inl (scwt, 6, .inl scwf)), (scc, .inl (scct, 6, .inl sccf)), (scf, .inl (scft, 6, .inl scff)), (sd, .inr (4, [.ref tx, .int sdd, .int sdh, .int sds, .ref sdp, .ref sdw, .ref sdc, .ref sdf])), (sdp, .inl (sdpt, 7, .inl sdpf)), (sdw, .inl (sdwt, 6, .inl sdwf)), (sdc, .inl (sdct, 6, .inl sdcf)), (sdf, .inl (sdft, 6, .inl sdff))] H := hP
  have hD : va_D A [(sc, .inr (4, [.ref tw, .int sdd, .int sdh, .int sds, .ref scp, .ref scw, .ref scc, .ref scf])), (scp, .inl (scpt, 7, .inl (va_cpy sdpf scpf 0 0 7))), (scw, .inl (scwt, 6, .inl scwf)), (scc, .inl (scct, 6, .inl sccf)), (scf, .inl (scft, 6, .inl scff)), (sd, .inr (4, [.ref tx, .int sdd, .int sdh, .int sds, .ref sdp, .ref sdw, .ref sdc, .ref sdf])), (sdp, .inl (sdpt, 7, .inl sdpf)), (sdw, .inl (sdwt, 6, .inl sdwf)), (sdc, .inl (sdct, 6, .inl sdcf)), (sdf, .inl (sdft, 6, .inl sdff))] := hD
  have h_2 : z_al 0 4 (va_cpy sdpf scpf 0 0 7) := z_alc hsdpf hscpf
  generalize (va_cpy sdpf scpf 0 0 7) = f_1 at hP hD h_2
  refine lv_aload_n hx hb dX4_copyFrom_39 rfl (lv_at hl 1 rfl) ?_
  refine va_get (D := D) (ci := 4) (v := .ref sdw) (C := RX4) (T := TX4) (N := 8) hx hb hts hiX4 hown hK hP 5 rfl rfl 5 (by decide) (hts _ (List.mem_of_getElem? (i := 9) rfl)) (fun _ h9 => h9) rfl dX4_copyFrom_40 ?_
  refine lv_iconst (v := 0) hx hb dX4_copyFrom_43 (by decide) ?_
  refine lv_aload_n hx hb dX4_copyFrom_44 rfl (lv_at hl 0 rfl) ?_
  refine va_get (D := D) (ci := 4) (v := .ref scw) (C := RX4) (T := TX4) (N := 8) hx hb hts hiX4 hown hK hP 0 rfl rfl 5 (by decide) (hts _ (List.mem_of_getElem? (i := 9) rfl)) (fun _ h9 => h9) rfl dX4_copyFrom_45 ?_
  refine lv_iconst (v := 0) hx hb dX4_copyFrom_48 (by decide) ?_
  refine lv_bipush (v := 6) hx hb dX4_copyFrom_49 (by decide) ?_
  refine va_copyi hx hb (by rw [hml]; exact hl.1.symm) hown (hts _ (List.mem_of_getElem? (i := 5) rfl)) (hts _ (List.mem_of_getElem? (i := 6) rfl)) (hts _ (List.mem_of_getElem? (i := 7) rfl)) (hts _ (List.mem_of_getElem? (i := 8) rfl)) hK hP hD hS 7 2 5 1 rfl rfl rfl rfl rfl (by decide) (by decide) (by decide) (by decide) (by decide) (fun _ _ => rfl) (Nat.le_of_ble_eq_true rfl) (Nat.le_of_ble_eq_true rfl) dX4_copyFrom_51 (fun H locs hP hD hS => ?_)
  have hP : va_P D vwCl [(sc, .inr (4, [.ref tw, .int sdd, .int sdh, .int sds, .ref scp, .ref scw, .ref scc, .ref scf])), (scp, .inl (scpt, 7, .inl f_1)), (scw, .inl (scwt, 6, .inl (va_cpy sdwf scwf 0 0 6))), (scc, .inl (scct, 6, .inl sccf)), (scf, .inl (scft, 6, .inl scff)), (sd, .inr (4, [.ref tx, .int sdd, .int sdh, .int sds, .ref sdp, .ref sdw, .ref sdc, .ref sdf])), (sdp, .inl (sdpt, 7, .inl sdpf)), (sdw, .inl (sdwt, 6, .inl sdwf)), (sdc, .inl (sdct, 6, .inl sdcf)), (sdf, .inl (sdft, 6, .inl sdff))] H := hP
  have hD : va_D A [(sc, .inr (4, [.ref tw, .int sdd, .int sdh, .int sds, .ref scp, .ref scw, .ref scc, .ref scf])), (scp, .inl (scpt, 7, .inl f_1)), (scw, .inl (scwt, 6, .inl (va_cpy sdwf scwf 0 0 6))), (scc, .inl (scct, 6, .inl sccf)), (scf, .inl (scft, 6, .inl scff)), (sd, .inr (4, [.ref tx, .int sdd, .int sdh, .int sds, .ref sdp, .ref sdw, .ref sdc, .ref sdf])), (sdp, .inl (sdpt, 7, .inl sdpf)), (sdw, .inl (sdwt, 6, .inl sdwf)), (sdc, .inl (sdct, 6, .inl sdcf)), (sdf, .inl (sdft, 6, .inl sdff))] := hD
  have h_4 : z_al 0 4 (va_cpy sdwf scwf 0 0 6) := z_alc hsdwf hscwf
  generalize (va_cpy sdwf scwf 0 0 6) = f_3 at hP hD h_4
  refine lv_aload_n hx hb dX4_copyFrom_54 rfl (lv_at hl 1 rfl) ?_
  refine va_get (D := D) (ci := 4) (v := .ref sdc) (C := RX4) (T := TX4) (N := 8) hx hb hts hiX4 hown hK hP 5 rfl rfl 6 (by decide) (hts _ (List.mem_of_getElem? (i := 10) rfl)) (fun _ h9 => h9) rfl dX4_copyFrom_55 ?_
  refine lv_iconst (v := 0) hx hb dX4_copyFrom_58 (by decide) ?_
  refine lv_aload_n hx hb dX4_copyFrom_59 rfl (lv_at hl 0 rfl) ?_
  refine va_get (D := D) (ci := 4) (v := .ref scc) (C := RX4) (T := TX4) (N := 8) hx hb hts hiX4 hown hK hP 0 rfl rfl 6 (by decide) (hts _ (List.mem_of_getElem? (i := 10) rfl)) (fun _ h9 => h9) rfl dX4_copyFrom_60 ?_
  refine lv_iconst (v := 0) hx hb dX4_copyFrom_63 (by decide) ?_
  refine lv_bipush (v := 6) hx hb dX4_copyFrom_64 (by decide) ?_
  refine va_copyi hx hb (by rw [hml]; exact hl.1.symm) hown (hts _ (List.mem_of_getElem? (i := 5) rfl)) (hts _ (List.mem_of_getElem? (i := 6) rfl)) (hts _ (List.mem_of_getElem? (i := 7) rfl)) (hts _ (List.mem_of_getElem? (i := 8) rfl)) hK hP hD hS 8 3 6 2 rfl rfl rfl rfl rfl (by decide) (by decide) (by decide) (by decide) (by decide) (fun _ _ => rfl) (Nat.le_of_ble_eq_true rfl) (Nat.le_of_ble_eq_true rfl) dX4_copyFrom_66 (fun H locs hP hD hS => ?_)
  have hP : va_P D vwCl [(sc, .inr (4, [.ref tw, .int sdd, .int sdh, .int sds, .ref scp, .ref scw, .ref scc, .ref scf])), (scp, .inl (scpt, 7, .inl f_1)), (scw, .inl (scwt, 6, .inl f_3)), (scc, .inl (scct, 6, .inl (va_cpy sdcf sccf 0 0 6))), (scf, .inl (scft, 6, .inl scff)), (sd, .inr (4, [.ref tx, .int sdd, .int sdh, .int sds, .ref sdp, .ref sdw, .ref sdc, .ref sdf])), (sdp, .inl (sdpt, 7, .inl sdpf)), (sdw, .inl (sdwt, 6, .inl sdwf)), (sdc, .inl (sdct, 6, .inl sdcf)), (sdf, .inl (sdft, 6, .inl sdff))] H := hP
  have hD : va_D A [(sc, .inr (4, [.ref tw, .int sdd, .int sdh, .int sds, .ref scp, .ref scw, .ref scc, .ref scf])), (scp, .inl (scpt, 7, .inl f_1)), (scw, .inl (scwt, 6, .inl f_3)), (scc, .inl (scct, 6, .inl (va_cpy sdcf sccf 0 0 6))), (scf, .inl (scft, 6, .inl scff)), (sd, .inr (4, [.ref tx, .int sdd, .int sdh, .int sds, .ref sdp, .ref sdw, .ref sdc, .ref sdf])), (sdp, .inl (sdpt, 7, .inl sdpf)), (sdw, .inl (sdwt, 6, .inl sdwf)), (sdc, .inl (sdct, 6, .inl sdcf)), (sdf, .inl (sdft, 6, .inl sdff))] := hD
  have h_6 : z_al (-1) 6 (va_cpy sdcf sccf 0 0 6) := z_alc hsdcf hsccf
  generalize (va_cpy sdcf sccf 0 0 6) = f_5 at hP hD h_6
  refine lv_aload_n hx hb dX4_copyFrom_69 rfl (lv_at hl 1 rfl) ?_
  refine va_get (D := D) (ci := 4) (v := .ref sdf) (C := RX4) (T := TX4) (N := 8) hx hb hts hiX4 hown hK hP 5 rfl rfl 7 (by decide) (hts _ (List.mem_of_getElem? (i := 11) rfl)) (fun _ h9 => h9) rfl dX4_copyFrom_70 ?_
  refine lv_iconst (v := 0) hx hb dX4_copyFrom_73 (by decide) ?_
  refine lv_aload_n hx hb dX4_copyFrom_74 rfl (lv_at hl 0 rfl) ?_
  refine va_get (D := D) (ci := 4) (v := .ref scf) (C := RX4) (T := TX4) (N := 8) hx hb hts hiX4 hown hK hP 0 rfl rfl 7 (by decide) (hts _ (List.mem_of_getElem? (i := 11) rfl)) (fun _ h9 => h9) rfl dX4_copyFrom_75 ?_
  refine lv_iconst (v := 0) hx hb dX4_copyFrom_78 (by decide) ?_
  refine lv_bipush (v := 6) hx hb dX4_copyFrom_79 (by decide) ?_
  refine va_copyi hx hb (by rw [hml]; exact hl.1.symm) hown (hts _ (List.mem_of_getElem? (i := 5) rfl)) (hts _ (List.mem_of_getElem? (i := 6) rfl)) (hts _ (List.mem_of_getElem? (i := 7) rfl)) (hts _ (List.mem_of_getElem? (i := 8) rfl)) hK hP hD hS 9 4 7 3 rfl rfl rfl rfl rfl (by decide) (by decide) (by decide) (by decide) (by decide) (fun _ _ => rfl) (Nat.le_of_ble_eq_true rfl) (Nat.le_of_ble_eq_true rfl) dX4_copyFrom_81 (fun H locs hP hD hS => ?_)
  have hP : va_P D vwCl [(sc, .inr (4, [.ref tw, .int sdd, .int sdh, .int sds, .ref scp, .ref scw, .ref scc, .ref scf])), (scp, .inl (scpt, 7, .inl f_1)), (scw, .inl (scwt, 6, .inl f_3)), (scc, .inl (scct, 6, .inl f_5)), (scf, .inl (scft, 6, .inl (va_cpy sdff scff 0 0 6))), (sd, .inr (4, [.ref tx, .int sdd, .int sdh, .int sds, .ref sdp, .ref sdw, .ref sdc, .ref sdf])), (sdp, .inl (sdpt, 7, .inl sdpf)), (sdw, .inl (sdwt, 6, .inl sdwf)), (sdc, .inl (sdct, 6, .inl sdcf)), (sdf, .inl (sdft, 6, .inl sdff))] H := hP
  have hD : va_D A [(sc, .inr (4, [.ref tw, .int sdd, .int sdh, .int sds, .ref scp, .ref scw, .ref scc, .ref scf])), (scp, .inl (scpt, 7, .inl f_1)), (scw, .inl (scwt, 6, .inl f_3)), (scc, .inl (scct, 6, .inl f_5)), (scf, .inl (scft, 6, .inl (va_cpy sdff scff 0 0 6))), (sd, .inr (4, [.ref tx, .int sdd, .int sdh, .int sds, .ref sdp, .ref sdw, .ref sdc, .ref sdf])), (sdp, .inl (sdpt, 7, .inl sdpf)), (sdw, .inl (sdwt, 6, .inl sdwf)), (sdc, .inl (sdct, 6, .inl sdcf)), (sdf, .inl (sdft, 6, .inl sdff))] := hD
  have h_8 : z_al 0 12 (va_cpy sdff scff 0 0 6) := z_alc hsdff hscff
  generalize (va_cpy sdff scff 0 0 6) = f_7 at hP hD h_8
  exact hret ([(sc, .inr (4, [.ref tw, .int sdd, .int sdh, .int sds, .ref scp, .ref scw, .ref scc, .ref scf])), (scp, .inl (scpt, 7, .inl f_1)), (scw, .inl (scwt, 6, .inl f_3)), (scc, .inl (scct, 6, .inl f_5)), (scf, .inl (scft, 6, .inl f_7)), (sd, .inr (4, [.ref tx, .int sdd, .int sdh, .int sds, .ref sdp, .ref sdw, .ref sdc, .ref sdf])), (sdp, .inl (sdpt, 7, .inl sdpf)), (sdw, .inl (sdwt, 6, .inl sdwf)), (sdc, .inl (sdct, 6, .inl sdcf)), (sdf, .inl (sdft, 6, .inl sdff))], []) _ _ _ _ dX4_copyFrom_84 ⟨sdd, sdh, sds, f_1, f_3, f_5, f_7, h_2, h_4, h_6, h_8, rfl⟩ hP (hK.sub [] rfl) hD hS

set_option maxHeartbeats 8000000 in
set_option maxRecDepth 100000 in
theorem s_Names5_add (l : Launch) (D : va_G) (ad : Nat → Nat) (na : Nat) (nan : Int32) (nac : Nat) (nact : ClassId) (nacf : Nat → Int64) (j0 : Int64) (hnan : z_in 0 4 nan) : z_Mv l yX2_add wsX2_add { frames := 1, cells := 0, slots := 0, locals := 20 } D ad [.ref na, .long j0] [(na, .inr (2, [.ref nac, .int nan])), (nac, .inl (nact, 5, .inr (.inl nacf)))] [(nact, .long)] 0 0 (fun u9 => ∃ (x0_1 : Int32) (x1_f : Nat → Int64), z_in 1 5 x0_1 ∧ z_na x1_f nacf x0_1 nan j0 ∧ u9 = ([(na, .inr (2, [.ref nac, .int x0_1])), (nac, .inl (nact, 5, .inr (.inl x1_f)))], [])) := by
  refine z_ofV (cc := cX2_add) (maxL := 3) (by decide) rfl (Nat.le_of_ble_eq_true rfl) ?_
  intro p e s m below meth c Q A ls hx hb hml hown hts hin hK hP hD hA hE hO hS hl hret
  have hown : s.vm.findClass RX2 = some m.cls := hown
  have hiX2 : ∀ w ∈ wsX20, w ∈ wsX2_add := fun _ h9 => List.mem_cons_of_mem _ (List.mem_append_right _ h9)
  have hl : lv_has ls 3 [(0, .ref na), (1, .long j0)] := hl
  refine lv_aload_n hx hb dX2_add_0 rfl (lv_at hl 0 rfl) ?_
  have hc9 := (w_Names5_isFull l D ad na nan nac nact nacf (z_w (c := 0) (d := 5) hnan rfl))
  refine z_calli (w0 := [(na, .inr (2, [.ref nac, .int nan])), (nac, .inl (nact, 5, .inr (.inl nacf)))]) (wr := []) (va_runV (As := []) (rest := []) ⟨hx, hb, hml, hown, hts⟩ (hc9 _) (cwV 0 hts gX2_add_X2_isFull rfl rfl rfl (by decide +kernel) ⟨Nat.le_of_ble_eq_true rfl, Nat.le_of_ble_eq_true rfl⟩) (z_preV hP hD hK hS hA hE hO [0, 1] [0] rfl (by decide +kernel) rfl 0 2 rfl rfl rfl) rfl rfl hl.1 rfl (lv_room (Nat.le_of_ble_eq_true rfl)) dX2_add_1 ⟨Nat.le_of_ble_eq_true rfl, Nat.le_of_ble_eq_true rfl⟩) hP hD hK hS hA [0, 1] [] rfl rfl (by decide +kernel) (by decide +kernel) (fun y_1 u9 H locs hw hP hD hK hS => ?_)
  obtain ⟨h_2, h_3, h_4, rfl⟩ := hw
  have hP : va_P D vwCl [(na, .inr (2, [.ref nac, .int nan])), (nac, .inl (nact, 5, .inr (.inl nacf)))] H := hP
  have hD : va_D A [(na, .inr (2, [.ref nac, .int nan])), (nac, .inl (nact, 5, .inr (.inl nacf)))] := hD
  have hK : va_K D vwCl [(nact, .long)] s := hK
  refine W.cs (cells' := 0) (slots' := 0) rfl rfl ?_
  refine W.eq (g2 := F0 m 4 ls (.int y_1 :: [])) rfl ?_
  refine lv_if_ne (tgt := 27) hx hb dX2_add_4 (by decide) (fun c_5 => ?_) (fun c_5 => ?_)
  · skip
    have h_6 : z_in 1 1 y_1 := z_neLo c_5 h_2 (z_lit (x := 0) (a := 0) (b := 0) rfl) rfl
    exact (z_no (z_both (e := 5) (f := 4) hnan (h_4 (z_eqk h_6 rfl)) rfl) rfl).elim
  · skip
    have h_7 : z_in 0 0 y_1 := z_leL (Int32.le_of_eq c_5) h_2 (z_lit (x := 0) (a := 0) (b := 0) rfl) rfl
    refine lv_aload_n hx hb dX2_add_7 rfl (lv_at hl 0 rfl) ?_
    refine va_get (D := D) (ci := 2) (v := .ref nac) (C := RX2) (T := TX2) (N := 2) hx hb hts hiX2 hown hK hP 0 rfl rfl 0 (by decide) (hts _ (List.mem_of_getElem? (i := 1) rfl)) (fun _ h9 => h9) rfl dX2_add_8 ?_
    refine lv_aload_n hx hb dX2_add_11 rfl (lv_at hl 0 rfl) ?_
    refine va_get (D := D) (ci := 2) (v := .int nan) (C := RX2) (T := TX2) (N := 2) hx hb hts hiX2 hown hK hP 0 rfl rfl 1 (by decide) (hts _ (List.mem_of_getElem? (i := 2) rfl)) (fun _ h9 => h9) rfl dX2_add_12 ?_
    refine lv_lload_n hx hb dX2_add_15 rfl (lv_at hl 1 rfl) ?_
    refine va_last hx hb hK hP hD hS 1 0 rfl rfl (z_vp hnan rfl) dX2_add_16 (fun H locs hP hD hS => ?_)
    generalize ef_8 : (vp_updL nacf (nan : Int32).toNatClampNeg j0) = f_8 at hP hD
    have hP : va_P D vwCl [(na, .inr (2, [.ref nac, .int nan])), (nac, .inl (nact, 5, .inr (.inl f_8)))] H := hP
    have hD : va_D A [(na, .inr (2, [.ref nac, .int nan])), (nac, .inl (nact, 5, .inr (.inl f_8)))] := hD
    refine lv_aload_n hx hb dX2_add_17 rfl (lv_at hl 0 rfl) ?_
    refine lv_dup hx hb dX2_add_18 rfl ?_
    refine va_get (D := D) (ci := 2) (v := .int nan) (C := RX2) (T := TX2) (N := 2) hx hb hts hiX2 hown hK hP 0 rfl rfl 1 (by decide) (hts _ (List.mem_of_getElem? (i := 2) rfl)) (fun _ h9 => h9) rfl dX2_add_19 ?_
    refine lv_iconst (v := 1) hx hb dX2_add_22 (by decide) ?_
    refine lv_iadd hx hb dX2_add_23 ?_
    refine lv_topi (fun y_9 ey_9 => ?_)
    have h_10 : z_in 1 5 y_9 := by rw [ey_9]; exact z_add hnan (z_lit (x := 1) (a := 1) (b := 1) rfl) rfl rfl
    have ty_9 : y_9.toInt = nan.toInt + 1 := by rw [ey_9]; exact (z_addT hnan (z_lit (x := 1) (a := 1) (b := 1) rfl) rfl).trans rfl
    refine va_put (D := D) (ci := 2) (v := .int y_9) (ty := tyX2 1) (C := RX2) (T := TX2) (N := 2) hx hb hts hiX2 tyX2 tyX2_ok nmX2 hown hK hP hD hS 0 rfl rfl 1 (by decide) (hts _ (List.mem_of_getElem? (i := 2) rfl)) (fun _ h9 => h9) rfl (tyX2_ok 1 (by decide)) rfl rfl (Nat.le_of_ble_eq_true rfl) dX2_add_24 (fun H locs hP hD hS => ?_)
    have hP : va_P D vwCl [(na, .inr (2, [.ref nac, .int y_9])), (nac, .inl (nact, 5, .inr (.inl f_8)))] H := hP
    have hD : va_D A [(na, .inr (2, [.ref nac, .int y_9])), (nac, .inl (nact, 5, .inr (.inl f_8)))] := hD
    exact hret ([(na, .inr (2, [.ref nac, .int y_9])), (nac, .inl (nact, 5, .inr (.inl f_8)))], []) _ _ _ _ dX2_add_27 ⟨y_9, f_8, h_10, (z_naI ef_8 ty_9 (z_w (c := 0) (d := 7) hnan rfl)), rfl⟩ hP (hK.sub [] rfl) hD hS

set_option maxHeartbeats 8000000 in
set_option maxRecDepth 100000 in
theorem w_Names5_add (l : Launch) (D : va_G) (ad : Nat → Nat) (na : Nat) (nan : Int32) (nac : Nat) (nact : ClassId) (nacf : Nat → Int64) (j0 : Int64) (hnan : z_in 0 5 nan) : z_Mv l yX2_add wsX2_add { frames := 1, cells := 0, slots := 0, locals := 20 } D ad [.ref na, .long j0] [(na, .inr (2, [.ref nac, .int nan])), (nac, .inl (nact, 5, .inr (.inl nacf)))] [(nact, .long)] 0 0 (fun u9 => ∃ (x0_1 : Int32) (x1_f : Nat → Int64), z_in 0 5 x0_1 ∧ u9 = ([(na, .inr (2, [.ref nac, .int x0_1])), (nac, .inl (nact, 5, .inr (.inl x1_f)))], [])) := by
  refine z_ofV (cc := cX2_add) (maxL := 3) (by decide) rfl (Nat.le_of_ble_eq_true rfl) ?_
  intro p e s m below meth c Q A ls hx hb hml hown hts hin hK hP hD hA hE hO hS hl hret
  have hown : s.vm.findClass RX2 = some m.cls := hown
  have hiX2 : ∀ w ∈ wsX20, w ∈ wsX2_add := fun _ h9 => List.mem_cons_of_mem _ (List.mem_append_right _ h9)
  have hl : lv_has ls 3 [(0, .ref na), (1, .long j0)] := hl
  refine lv_aload_n hx hb dX2_add_0 rfl (lv_at hl 0 rfl) ?_
  have hc9 := (w_Names5_isFull l D ad na nan nac nact nacf hnan)
  refine z_calli (w0 := [(na, .inr (2, [.ref nac, .int nan])), (nac, .inl (nact, 5, .inr (.inl nacf)))]) (wr := []) (va_runV (As := []) (rest := []) ⟨hx, hb, hml, hown, hts⟩ (hc9 _) (cwV 0 hts gX2_add_X2_isFull rfl rfl rfl (by decide +kernel) ⟨Nat.le_of_ble_eq_true rfl, Nat.le_of_ble_eq_true rfl⟩) (z_preV hP hD hK hS hA hE hO [0, 1] [0] rfl (by decide +kernel) rfl 0 2 rfl rfl rfl) rfl rfl hl.1 rfl (lv_room (Nat.le_of_ble_eq_true rfl)) dX2_add_1 ⟨Nat.le_of_ble_eq_true rfl, Nat.le_of_ble_eq_true rfl⟩) hP hD hK hS hA [0, 1] [] rfl rfl (by decide +kernel) (by decide +kernel) (fun y_1 u9 H locs hw hP hD hK hS => ?_)
  obtain ⟨h_2, h_3, h_4, rfl⟩ := hw
  have hP : va_P D vwCl [(na, .inr (2, [.ref nac, .int nan])), (nac, .inl (nact, 5, .inr (.inl nacf)))] H := hP
  have hD : va_D A [(na, .inr (2, [.ref nac, .int nan])), (nac, .inl (nact, 5, .inr (.inl nacf)))] := hD
  have hK : va_K D vwCl [(nact, .long)] s := hK
  refine W.cs (cells' := 0) (slots' := 0) rfl rfl ?_
  refine W.eq (g2 := F0 m 4 ls (.int y_1 :: [])) rfl ?_
  refine lv_if_ne (tgt := 27) hx hb dX2_add_4 (by decide) (fun c_5 => ?_) (fun c_5 => ?_)
  · skip
    have h_6 : z_in 1 1 y_1 := z_neLo c_5 h_2 (z_lit (x := 0) (a := 0) (b := 0) rfl) rfl
    have h_7 : z_in 5 5 nan := z_both hnan (h_4 (z_eqk h_6 rfl)) rfl
    exact hret ([(na, .inr (2, [.ref nac, .int nan])), (nac, .inl (nact, 5, .inr (.inl nacf)))], []) _ _ _ _ dX2_add_27 ⟨nan, nacf, (z_w (c := 0) (d := 5) h_7 rfl), rfl⟩ hP (hK.sub [] rfl) hD hS
  · skip
    have h_8 : z_in 0 0 y_1 := z_leL (Int32.le_of_eq c_5) h_2 (z_lit (x := 0) (a := 0) (b := 0) rfl) rfl
    have h_9 : z_in 0 4 nan := z_both hnan (h_3 (z_eqk h_8 rfl)) rfl
    refine lv_aload_n hx hb dX2_add_7 rfl (lv_at hl 0 rfl) ?_
    refine va_get (D := D) (ci := 2) (v := .ref nac) (C := RX2) (T := TX2) (N := 2) hx hb hts hiX2 hown hK hP 0 rfl rfl 0 (by decide) (hts _ (List.mem_of_getElem? (i := 1) rfl)) (fun _ h9 => h9) rfl dX2_add_8 ?_
    refine lv_aload_n hx hb dX2_add_11 rfl (lv_at hl 0 rfl) ?_
    refine va_get (D := D) (ci := 2) (v := .int nan) (C := RX2) (T := TX2) (N := 2) hx hb hts hiX2 hown hK hP 0 rfl rfl 1 (by decide) (hts _ (List.mem_of_getElem? (i := 2) rfl)) (fun _ h9 => h9) rfl dX2_add_12 ?_
    refine lv_lload_n hx hb dX2_add_15 rfl (lv_at hl 1 rfl) ?_
    refine va_last hx hb hK hP hD hS 1 0 rfl rfl (z_vp h_9 rfl) dX2_add_16 (fun H locs hP hD hS => ?_)
    generalize (vp_updL nacf (nan : Int32).toNatClampNeg j0) = f_10 at hP hD
    have hP : va_P D vwCl [(na, .inr (2, [.ref nac, .int nan])), (nac, .inl (nact, 5, .inr (.inl f_10)))] H := hP
    have hD : va_D A [(na, .inr (2, [.ref nac, .int nan])), (nac, .inl (nact, 5, .inr (.inl f_10)))] := hD
    refine lv_aload_n hx hb dX2_add_17 rfl (lv_at hl 0 rfl) ?_
    refine lv_dup hx hb dX2_add_18 rfl ?_
    refine va_get (D := D) (ci := 2) (v := .int nan) (C := RX2) (T := TX2) (N := 2) hx hb hts hiX2 hown hK hP 0 rfl rfl 1 (by decide) (hts _ (List.mem_of_getElem? (i := 2) rfl)) (fun _ h9 => h9) rfl dX2_add_19 ?_
    refine lv_iconst (v := 1) hx hb dX2_add_22 (by decide) ?_
    refine lv_iadd hx hb dX2_add_23 ?_
    refine lv_topi (fun y_11 ey_11 => ?_)
    have h_12 : z_in 1 5 y_11 := by rw [ey_11]; exact z_add h_9 (z_lit (x := 1) (a := 1) (b := 1) rfl) rfl rfl
    have ty_11 : y_11.toInt = nan.toInt + 1 := by rw [ey_11]; exact (z_addT h_9 (z_lit (x := 1) (a := 1) (b := 1) rfl) rfl).trans rfl
    refine va_put (D := D) (ci := 2) (v := .int y_11) (ty := tyX2 1) (C := RX2) (T := TX2) (N := 2) hx hb hts hiX2 tyX2 tyX2_ok nmX2 hown hK hP hD hS 0 rfl rfl 1 (by decide) (hts _ (List.mem_of_getElem? (i := 2) rfl)) (fun _ h9 => h9) rfl (tyX2_ok 1 (by decide)) rfl rfl (Nat.le_of_ble_eq_true rfl) dX2_add_24 (fun H locs hP hD hS => ?_)
    have hP : va_P D vwCl [(na, .inr (2, [.ref nac, .int y_11])), (nac, .inl (nact, 5, .inr (.inl f_10)))] H := hP
    have hD : va_D A [(na, .inr (2, [.ref nac, .int y_11])), (nac, .inl (nact, 5, .inr (.inl f_10)))] := hD
    exact hret ([(na, .inr (2, [.ref nac, .int y_11])), (nac, .inl (nact, 5, .inr (.inl f_10)))], []) _ _ _ _ dX2_add_27 ⟨y_11, f_10, (z_w (c := 0) (d := 5) h_12 rfl), rfl⟩ hP (hK.sub [] rfl) hD hS

set_option maxHeartbeats 8000000 in
set_option maxRecDepth 100000 in
theorem w_Names5_get (l : Launch) (D : va_G) (ad : Nat → Nat) (na : Nat) (nan : Int32) (nac : Nat) (nact : ClassId) (nacf : Nat → Int64) (i0 : Int32) (hnan : z_in 0 5 nan) : z_Ml l yX2_get wsX2_get { frames := 0, cells := 0, slots := 0, locals := 0 } D ad [.ref na, .int i0] [(na, .inr (2, [.ref nac, .int nan])), (nac, .inl (nact, 5, .inr (.inl nacf)))] [(nact, .long)] 0 0 (fun r9 u9 => u9 = ([(na, .inr (2, [.ref nac, .int nan])), (nac, .inl (nact, 5, .inr (.inl nacf)))], [])) := by
  refine z_ofL (cc := cX2_get) (maxL := 2) (by decide) rfl (Nat.le_of_ble_eq_true rfl) ?_
  intro p e s m below meth c Q A ls hx hb hml hown hts hin hK hP hD hA hE hO hS hl hret
  have hown : s.vm.findClass RX2 = some m.cls := hown
  have hiX2 : ∀ w ∈ wsX20, w ∈ wsX2_get := fun _ h9 => List.mem_cons_of_mem _ (List.mem_append_right _ h9)
  have hl : lv_has ls 2 [(0, .ref na), (1, .int i0)] := hl
  refine lv_iload_n hx hb dX2_get_0 rfl (lv_at hl 1 rfl) ?_
  refine lv_if_lt (tgt := 30) hx hb dX2_get_1 (by decide) (fun c_1 => ?_) (fun c_1 => ?_)
  · skip
    have h_2 : z_in (-2147483648) (-1) i0 := z_ltL c_1 (z_any i0) (z_lit (x := 0) (a := 0) (b := 0) rfl) rfl
    refine lv_lconst (v := 0) hx hb dX2_get_30 (by decide) ?_
    exact hret 0 ([(na, .inr (2, [.ref nac, .int nan])), (nac, .inl (nact, 5, .inr (.inl nacf)))], []) _ _ _ _ dX2_get_31 rfl hP (hK.sub [] rfl) hD hS
  · skip
    have h_3 : z_in 0 2147483647 i0 := z_leR (Int32.not_lt.mp c_1) (z_lit (x := 0) (a := 0) (b := 0) rfl) (z_any i0) rfl
    refine lv_iload_n hx hb dX2_get_4 rfl (lv_at hl 1 rfl) ?_
    refine lv_aload_n hx hb dX2_get_5 rfl (lv_at hl 0 rfl) ?_
    refine va_get (D := D) (ci := 2) (v := .int nan) (C := RX2) (T := TX2) (N := 2) hx hb hts hiX2 hown hK hP 0 rfl rfl 1 (by decide) (hts _ (List.mem_of_getElem? (i := 1) rfl)) (fun _ h9 => h9) rfl dX2_get_6 ?_
    refine lv_icmp_ge (tgt := 30) hx hb dX2_get_9 (by decide) (fun c_4 => ?_) (fun c_4 => ?_)
    · skip
      refine lv_lconst (v := 0) hx hb dX2_get_30 (by decide) ?_
      exact hret 0 ([(na, .inr (2, [.ref nac, .int nan])), (nac, .inl (nact, 5, .inr (.inl nacf)))], []) _ _ _ _ dX2_get_31 rfl hP (hK.sub [] rfl) hD hS
    · skip
      have h_5 : z_in 0 4 i0 := z_ltL (Int32.not_le.mp c_4) h_3 hnan rfl
      have h_6 : z_in 1 5 nan := z_ltR (Int32.not_le.mp c_4) h_3 hnan rfl
      refine lv_iload_n hx hb dX2_get_12 rfl (lv_at hl 1 rfl) ?_
      refine lv_aload_n hx hb dX2_get_13 rfl (lv_at hl 0 rfl) ?_
      refine va_get (D := D) (ci := 2) (v := .ref nac) (C := RX2) (T := TX2) (N := 2) hx hb hts hiX2 hown hK hP 0 rfl rfl 0 (by decide) (hts _ (List.mem_of_getElem? (i := 2) rfl)) (fun _ h9 => h9) rfl dX2_get_14 ?_
      refine va_alen (v := 5) hx hb hK hP 1 0 rfl rfl rfl dX2_get_17 ?_
      refine lv_icmp_ge (tgt := 30) hx hb dX2_get_18 (by decide) (fun c_7 => ?_) (fun c_7 => ?_)
      · skip
        exact (z_no (z_leL (e := 4) c_7 (z_lit (x := 5) (a := 5) (b := 5) rfl) h_5 rfl) rfl).elim
      · skip
        refine lv_aload_n hx hb dX2_get_21 rfl (lv_at hl 0 rfl) ?_
        refine va_get (D := D) (ci := 2) (v := .ref nac) (C := RX2) (T := TX2) (N := 2) hx hb hts hiX2 hown hK hP 0 rfl rfl 0 (by decide) (hts _ (List.mem_of_getElem? (i := 2) rfl)) (fun _ h9 => h9) rfl dX2_get_22 ?_
        refine lv_iload_n hx hb dX2_get_25 rfl (lv_at hl 1 rfl) ?_
        refine va_lald hx hb hK hP 1 0 rfl rfl (z_vp h_5 rfl) dX2_get_26 ?_
        refine lv_topl (fun y_8 ey_8 => ?_)
        refine lv_goto (tgt := 31) hx hb dX2_get_27 (by decide) ?_
        exact hret y_8 ([(na, .inr (2, [.ref nac, .int nan])), (nac, .inl (nact, 5, .inr (.inl nacf)))], []) _ _ _ _ dX2_get_31 rfl hP (hK.sub [] rfl) hD hS

set_option maxHeartbeats 8000000 in
set_option maxRecDepth 100000 in
theorem w_Names5_copyFrom (l : Launch) (D : va_G) (ad : Nat → Nat) (na : Nat) (nan : Int32) (nac : Nat) (nact : ClassId) (nacf : Nat → Int64) (nb : Nat) (nbn : Int32) (nbc : Nat) (nbct : ClassId) (nbcf : Nat → Int64) (hnan : z_in 0 5 nan) (hnbn : z_in 0 5 nbn) : z_Mv l yX2_copyFrom wsX2_copyFrom { frames := 1, cells := 0, slots := 0, locals := 80 } D ad [.ref na, .ref nb] [(na, .inr (2, [.ref nac, .int nan])), (nac, .inl (nact, 5, .inr (.inl nacf))), (nb, .inr (2, [.ref nbc, .int nbn])), (nbc, .inl (nbct, 5, .inr (.inl nbcf)))] [(nact, .long), (nbct, .long)] 0 0 (fun u9 => ∃ (x0_1 : Int32) (x1_f : Nat → Int64), z_in 0 5 x0_1 ∧ z_sz x0_1 nbn ∧ z_lq x1_f x0_1 nbcf nbn ∧ u9 = ([(na, .inr (2, [.ref nac, .int x0_1])), (nac, .inl (nact, 5, .inr (.inl x1_f))), (nb, .inr (2, [.ref nbc, .int nbn])), (nbc, .inl (nbct, 5, .inr (.inl nbcf)))], [])) := by
  refine z_ofV (cc := cX2_copyFrom) (maxL := 2) (by decide) rfl (Nat.le_of_ble_eq_true rfl) ?_
  intro p e s m below meth c Q A ls hx hb hml hown hts hin hK hP hD hA hE hO hS hl hret
  have hown : s.vm.findClass RX2 = some m.cls := hown
  have hiX2 : ∀ w ∈ wsX20, w ∈ wsX2_copyFrom := fun _ h9 => List.mem_cons_of_mem _ (List.mem_append_right _ h9)
  have hl : lv_has ls 2 [(0, .ref na), (1, .ref nb)] := hl
  refine lv_aload_n hx hb dX2_copyFrom_0 rfl (lv_at hl 0 rfl) ?_
  refine lv_aload_n hx hb dX2_copyFrom_1 rfl (lv_at hl 1 rfl) ?_
  refine va_get (D := D) (ci := 2) (v := .int nbn) (C := RX2) (T := TX2) (N := 2) hx hb hts hiX2 hown hK hP 2 rfl rfl 1 (by decide) (hts _ (List.mem_of_getElem? (i := 1) rfl)) (fun _ h9 => h9) rfl dX2_copyFrom_2 ?_
  refine va_put (D := D) (ci := 2) (v := .int nbn) (ty := tyX2 1) (C := RX2) (T := TX2) (N := 2) hx hb hts hiX2 tyX2 tyX2_ok nmX2 hown hK hP hD hS 0 rfl rfl 1 (by decide) (hts _ (List.mem_of_getElem? (i := 1) rfl)) (fun _ h9 => h9) rfl (tyX2_ok 1 (by decide)) rfl rfl (Nat.le_of_ble_eq_true rfl) dX2_copyFrom_5 (fun H locs hP hD hS => ?_)
  have hP : va_P D vwCl [(na, .inr (2, [.ref nac, .int nbn])), (nac, .inl (nact, 5, .inr (.inl nacf))), (nb, .inr (2, [.ref nbc, .int nbn])), (nbc, .inl (nbct, 5, .inr (.inl nbcf)))] H := hP
  have hD : va_D A [(na, .inr (2, [.ref nac, .int nbn])), (nac, .inl (nact, 5, .inr (.inl nacf))), (nb, .inr (2, [.ref nbc, .int nbn])), (nbc, .inl (nbct, 5, .inr (.inl nbcf)))] := hD
  refine lv_aload_n hx hb dX2_copyFrom_8 rfl (lv_at hl 1 rfl) ?_
  refine va_get (D := D) (ci := 2) (v := .ref nbc) (C := RX2) (T := TX2) (N := 2) hx hb hts hiX2 hown hK hP 2 rfl rfl 0 (by decide) (hts _ (List.mem_of_getElem? (i := 2) rfl)) (fun _ h9 => h9) rfl dX2_copyFrom_9 ?_
  refine lv_iconst (v := 0) hx hb dX2_copyFrom_12 (by decide) ?_
  refine lv_aload_n hx hb dX2_copyFrom_13 rfl (lv_at hl 0 rfl) ?_
  refine va_get (D := D) (ci := 2) (v := .ref nac) (C := RX2) (T := TX2) (N := 2) hx hb hts hiX2 hown hK hP 0 rfl rfl 0 (by decide) (hts _ (List.mem_of_getElem? (i := 2) rfl)) (fun _ h9 => h9) rfl dX2_copyFrom_14 ?_
  refine lv_iconst (v := 0) hx hb dX2_copyFrom_17 (by decide) ?_
  refine lv_aload_n hx hb dX2_copyFrom_18 rfl (lv_at hl 0 rfl) ?_
  refine va_get (D := D) (ci := 2) (v := .ref nac) (C := RX2) (T := TX2) (N := 2) hx hb hts hiX2 hown hK hP 0 rfl rfl 0 (by decide) (hts _ (List.mem_of_getElem? (i := 2) rfl)) (fun _ h9 => h9) rfl dX2_copyFrom_19 ?_
  refine va_alen (v := 5) hx hb hK hP 1 0 rfl rfl rfl dX2_copyFrom_22 ?_
  refine va_copyl hx hb (by rw [hml]; exact hl.1.symm) hown (hts _ (List.mem_of_getElem? (i := 3) rfl)) (hts _ (List.mem_of_getElem? (i := 4) rfl)) (hts _ (List.mem_of_getElem? (i := 5) rfl)) (hts _ (List.mem_of_getElem? (i := 6) rfl)) hK hP hD hS 3 1 1 0 rfl rfl rfl rfl rfl (by decide) (by decide) (by decide) (by decide) (by decide) (fun _ _ => rfl) (Nat.le_of_ble_eq_true rfl) (Nat.le_of_ble_eq_true rfl) dX2_copyFrom_23 (fun H locs hP hD hS => ?_)
  have hP : va_P D vwCl [(na, .inr (2, [.ref nac, .int nbn])), (nac, .inl (nact, 5, .inr (.inl (va_cpy nbcf nacf 0 0 5)))), (nb, .inr (2, [.ref nbc, .int nbn])), (nbc, .inl (nbct, 5, .inr (.inl nbcf)))] H := hP
  have hD : va_D A [(na, .inr (2, [.ref nac, .int nbn])), (nac, .inl (nact, 5, .inr (.inl (va_cpy nbcf nacf 0 0 5)))), (nb, .inr (2, [.ref nbc, .int nbn])), (nbc, .inl (nbct, 5, .inr (.inl nbcf)))] := hD
  generalize ef_1 : (va_cpy nbcf nacf 0 0 5) = f_1 at hP hD
  exact hret ([(na, .inr (2, [.ref nac, .int nbn])), (nac, .inl (nact, 5, .inr (.inl f_1))), (nb, .inr (2, [.ref nbc, .int nbn])), (nbc, .inl (nbct, 5, .inr (.inl nbcf)))], []) _ _ _ _ dX2_copyFrom_26 ⟨nbn, f_1, hnbn, (show z_sz nbn nbn from rfl), (z_lqI ef_1 hnbn rfl), rfl⟩ hP (hK.sub [] rfl) hD hS

set_option maxHeartbeats 8000000 in
set_option maxRecDepth 100000 in
theorem s_Names7_add (l : Launch) (D : va_G) (ad : Nat → Nat) (na : Nat) (nan : Int32) (nac : Nat) (nact : ClassId) (nacf : Nat → Int64) (j0 : Int64) (hnan : z_in 0 6 nan) : z_Mv l yX2_add wsX2_add { frames := 1, cells := 0, slots := 0, locals := 20 } D ad [.ref na, .long j0] [(na, .inr (2, [.ref nac, .int nan])), (nac, .inl (nact, 7, .inr (.inl nacf)))] [(nact, .long)] 0 0 (fun u9 => ∃ (x0_1 : Int32) (x1_f : Nat → Int64), z_in 1 7 x0_1 ∧ z_na x1_f nacf x0_1 nan j0 ∧ u9 = ([(na, .inr (2, [.ref nac, .int x0_1])), (nac, .inl (nact, 7, .inr (.inl x1_f)))], [])) := by
  refine z_ofV (cc := cX2_add) (maxL := 3) (by decide) rfl (Nat.le_of_ble_eq_true rfl) ?_
  intro p e s m below meth c Q A ls hx hb hml hown hts hin hK hP hD hA hE hO hS hl hret
  have hown : s.vm.findClass RX2 = some m.cls := hown
  have hiX2 : ∀ w ∈ wsX20, w ∈ wsX2_add := fun _ h9 => List.mem_cons_of_mem _ (List.mem_append_right _ h9)
  have hl : lv_has ls 3 [(0, .ref na), (1, .long j0)] := hl
  refine lv_aload_n hx hb dX2_add_0 rfl (lv_at hl 0 rfl) ?_
  have hc9 := (w_Names7_isFull l D ad na nan nac nact nacf (z_w (c := 0) (d := 7) hnan rfl))
  refine z_calli (w0 := [(na, .inr (2, [.ref nac, .int nan])), (nac, .inl (nact, 7, .inr (.inl nacf)))]) (wr := []) (va_runV (As := []) (rest := []) ⟨hx, hb, hml, hown, hts⟩ (hc9 _) (cwV 0 hts gX2_add_X2_isFull rfl rfl rfl (by decide +kernel) ⟨Nat.le_of_ble_eq_true rfl, Nat.le_of_ble_eq_true rfl⟩) (z_preV hP hD hK hS hA hE hO [0, 1] [0] rfl (by decide +kernel) rfl 0 2 rfl rfl rfl) rfl rfl hl.1 rfl (lv_room (Nat.le_of_ble_eq_true rfl)) dX2_add_1 ⟨Nat.le_of_ble_eq_true rfl, Nat.le_of_ble_eq_true rfl⟩) hP hD hK hS hA [0, 1] [] rfl rfl (by decide +kernel) (by decide +kernel) (fun y_1 u9 H locs hw hP hD hK hS => ?_)
  obtain ⟨h_2, h_3, h_4, rfl⟩ := hw
  have hP : va_P D vwCl [(na, .inr (2, [.ref nac, .int nan])), (nac, .inl (nact, 7, .inr (.inl nacf)))] H := hP
  have hD : va_D A [(na, .inr (2, [.ref nac, .int nan])), (nac, .inl (nact, 7, .inr (.inl nacf)))] := hD
  have hK : va_K D vwCl [(nact, .long)] s := hK
  refine W.cs (cells' := 0) (slots' := 0) rfl rfl ?_
  refine W.eq (g2 := F0 m 4 ls (.int y_1 :: [])) rfl ?_
  refine lv_if_ne (tgt := 27) hx hb dX2_add_4 (by decide) (fun c_5 => ?_) (fun c_5 => ?_)
  · skip
    have h_6 : z_in 1 1 y_1 := z_neLo c_5 h_2 (z_lit (x := 0) (a := 0) (b := 0) rfl) rfl
    exact (z_no (z_both (e := 7) (f := 6) hnan (h_4 (z_eqk h_6 rfl)) rfl) rfl).elim
  · skip
    have h_7 : z_in 0 0 y_1 := z_leL (Int32.le_of_eq c_5) h_2 (z_lit (x := 0) (a := 0) (b := 0) rfl) rfl
    refine lv_aload_n hx hb dX2_add_7 rfl (lv_at hl 0 rfl) ?_
    refine va_get (D := D) (ci := 2) (v := .ref nac) (C := RX2) (T := TX2) (N := 2) hx hb hts hiX2 hown hK hP 0 rfl rfl 0 (by decide) (hts _ (List.mem_of_getElem? (i := 1) rfl)) (fun _ h9 => h9) rfl dX2_add_8 ?_
    refine lv_aload_n hx hb dX2_add_11 rfl (lv_at hl 0 rfl) ?_
    refine va_get (D := D) (ci := 2) (v := .int nan) (C := RX2) (T := TX2) (N := 2) hx hb hts hiX2 hown hK hP 0 rfl rfl 1 (by decide) (hts _ (List.mem_of_getElem? (i := 2) rfl)) (fun _ h9 => h9) rfl dX2_add_12 ?_
    refine lv_lload_n hx hb dX2_add_15 rfl (lv_at hl 1 rfl) ?_
    refine va_last hx hb hK hP hD hS 1 0 rfl rfl (z_vp hnan rfl) dX2_add_16 (fun H locs hP hD hS => ?_)
    generalize ef_8 : (vp_updL nacf (nan : Int32).toNatClampNeg j0) = f_8 at hP hD
    have hP : va_P D vwCl [(na, .inr (2, [.ref nac, .int nan])), (nac, .inl (nact, 7, .inr (.inl f_8)))] H := hP
    have hD : va_D A [(na, .inr (2, [.ref nac, .int nan])), (nac, .inl (nact, 7, .inr (.inl f_8)))] := hD
    refine lv_aload_n hx hb dX2_add_17 rfl (lv_at hl 0 rfl) ?_
    refine lv_dup hx hb dX2_add_18 rfl ?_
    refine va_get (D := D) (ci := 2) (v := .int nan) (C := RX2) (T := TX2) (N := 2) hx hb hts hiX2 hown hK hP 0 rfl rfl 1 (by decide) (hts _ (List.mem_of_getElem? (i := 2) rfl)) (fun _ h9 => h9) rfl dX2_add_19 ?_
    refine lv_iconst (v := 1) hx hb dX2_add_22 (by decide) ?_
    refine lv_iadd hx hb dX2_add_23 ?_
    refine lv_topi (fun y_9 ey_9 => ?_)
    have h_10 : z_in 1 7 y_9 := by rw [ey_9]; exact z_add hnan (z_lit (x := 1) (a := 1) (b := 1) rfl) rfl rfl
    have ty_9 : y_9.toInt = nan.toInt + 1 := by rw [ey_9]; exact (z_addT hnan (z_lit (x := 1) (a := 1) (b := 1) rfl) rfl).trans rfl
    refine va_put (D := D) (ci := 2) (v := .int y_9) (ty := tyX2 1) (C := RX2) (T := TX2) (N := 2) hx hb hts hiX2 tyX2 tyX2_ok nmX2 hown hK hP hD hS 0 rfl rfl 1 (by decide) (hts _ (List.mem_of_getElem? (i := 2) rfl)) (fun _ h9 => h9) rfl (tyX2_ok 1 (by decide)) rfl rfl (Nat.le_of_ble_eq_true rfl) dX2_add_24 (fun H locs hP hD hS => ?_)
    have hP : va_P D vwCl [(na, .inr (2, [.ref nac, .int y_9])), (nac, .inl (nact, 7, .inr (.inl f_8)))] H := hP
    have hD : va_D A [(na, .inr (2, [.ref nac, .int y_9])), (nac, .inl (nact, 7, .inr (.inl f_8)))] := hD
    exact hret ([(na, .inr (2, [.ref nac, .int y_9])), (nac, .inl (nact, 7, .inr (.inl f_8)))], []) _ _ _ _ dX2_add_27 ⟨y_9, f_8, h_10, (z_naI ef_8 ty_9 (z_w (c := 0) (d := 7) hnan rfl)), rfl⟩ hP (hK.sub [] rfl) hD hS

set_option maxHeartbeats 8000000 in
set_option maxRecDepth 100000 in
theorem w_Names7_add (l : Launch) (D : va_G) (ad : Nat → Nat) (na : Nat) (nan : Int32) (nac : Nat) (nact : ClassId) (nacf : Nat → Int64) (j0 : Int64) (hnan : z_in 0 7 nan) : z_Mv l yX2_add wsX2_add { frames := 1, cells := 0, slots := 0, locals := 20 } D ad [.ref na, .long j0] [(na, .inr (2, [.ref nac, .int nan])), (nac, .inl (nact, 7, .inr (.inl nacf)))] [(nact, .long)] 0 0 (fun u9 => ∃ (x0_1 : Int32) (x1_f : Nat → Int64), z_in 0 7 x0_1 ∧ u9 = ([(na, .inr (2, [.ref nac, .int x0_1])), (nac, .inl (nact, 7, .inr (.inl x1_f)))], [])) := by
  refine z_ofV (cc := cX2_add) (maxL := 3) (by decide) rfl (Nat.le_of_ble_eq_true rfl) ?_
  intro p e s m below meth c Q A ls hx hb hml hown hts hin hK hP hD hA hE hO hS hl hret
  have hown : s.vm.findClass RX2 = some m.cls := hown
  have hiX2 : ∀ w ∈ wsX20, w ∈ wsX2_add := fun _ h9 => List.mem_cons_of_mem _ (List.mem_append_right _ h9)
  have hl : lv_has ls 3 [(0, .ref na), (1, .long j0)] := hl
  refine lv_aload_n hx hb dX2_add_0 rfl (lv_at hl 0 rfl) ?_
  have hc9 := (w_Names7_isFull l D ad na nan nac nact nacf hnan)
  refine z_calli (w0 := [(na, .inr (2, [.ref nac, .int nan])), (nac, .inl (nact, 7, .inr (.inl nacf)))]) (wr := []) (va_runV (As := []) (rest := []) ⟨hx, hb, hml, hown, hts⟩ (hc9 _) (cwV 0 hts gX2_add_X2_isFull rfl rfl rfl (by decide +kernel) ⟨Nat.le_of_ble_eq_true rfl, Nat.le_of_ble_eq_true rfl⟩) (z_preV hP hD hK hS hA hE hO [0, 1] [0] rfl (by decide +kernel) rfl 0 2 rfl rfl rfl) rfl rfl hl.1 rfl (lv_room (Nat.le_of_ble_eq_true rfl)) dX2_add_1 ⟨Nat.le_of_ble_eq_true rfl, Nat.le_of_ble_eq_true rfl⟩) hP hD hK hS hA [0, 1] [] rfl rfl (by decide +kernel) (by decide +kernel) (fun y_1 u9 H locs hw hP hD hK hS => ?_)
  obtain ⟨h_2, h_3, h_4, rfl⟩ := hw
  have hP : va_P D vwCl [(na, .inr (2, [.ref nac, .int nan])), (nac, .inl (nact, 7, .inr (.inl nacf)))] H := hP
  have hD : va_D A [(na, .inr (2, [.ref nac, .int nan])), (nac, .inl (nact, 7, .inr (.inl nacf)))] := hD
  have hK : va_K D vwCl [(nact, .long)] s := hK
  refine W.cs (cells' := 0) (slots' := 0) rfl rfl ?_
  refine W.eq (g2 := F0 m 4 ls (.int y_1 :: [])) rfl ?_
  refine lv_if_ne (tgt := 27) hx hb dX2_add_4 (by decide) (fun c_5 => ?_) (fun c_5 => ?_)
  · skip
    have h_6 : z_in 1 1 y_1 := z_neLo c_5 h_2 (z_lit (x := 0) (a := 0) (b := 0) rfl) rfl
    have h_7 : z_in 7 7 nan := z_both hnan (h_4 (z_eqk h_6 rfl)) rfl
    exact hret ([(na, .inr (2, [.ref nac, .int nan])), (nac, .inl (nact, 7, .inr (.inl nacf)))], []) _ _ _ _ dX2_add_27 ⟨nan, nacf, (z_w (c := 0) (d := 7) h_7 rfl), rfl⟩ hP (hK.sub [] rfl) hD hS
  · skip
    have h_8 : z_in 0 0 y_1 := z_leL (Int32.le_of_eq c_5) h_2 (z_lit (x := 0) (a := 0) (b := 0) rfl) rfl
    have h_9 : z_in 0 6 nan := z_both hnan (h_3 (z_eqk h_8 rfl)) rfl
    refine lv_aload_n hx hb dX2_add_7 rfl (lv_at hl 0 rfl) ?_
    refine va_get (D := D) (ci := 2) (v := .ref nac) (C := RX2) (T := TX2) (N := 2) hx hb hts hiX2 hown hK hP 0 rfl rfl 0 (by decide) (hts _ (List.mem_of_getElem? (i := 1) rfl)) (fun _ h9 => h9) rfl dX2_add_8 ?_
    refine lv_aload_n hx hb dX2_add_11 rfl (lv_at hl 0 rfl) ?_
    refine va_get (D := D) (ci := 2) (v := .int nan) (C := RX2) (T := TX2) (N := 2) hx hb hts hiX2 hown hK hP 0 rfl rfl 1 (by decide) (hts _ (List.mem_of_getElem? (i := 2) rfl)) (fun _ h9 => h9) rfl dX2_add_12 ?_
    refine lv_lload_n hx hb dX2_add_15 rfl (lv_at hl 1 rfl) ?_
    refine va_last hx hb hK hP hD hS 1 0 rfl rfl (z_vp h_9 rfl) dX2_add_16 (fun H locs hP hD hS => ?_)
    generalize (vp_updL nacf (nan : Int32).toNatClampNeg j0) = f_10 at hP hD
    have hP : va_P D vwCl [(na, .inr (2, [.ref nac, .int nan])), (nac, .inl (nact, 7, .inr (.inl f_10)))] H := hP
    have hD : va_D A [(na, .inr (2, [.ref nac, .int nan])), (nac, .inl (nact, 7, .inr (.inl f_10)))] := hD
    refine lv_aload_n hx hb dX2_add_17 rfl (lv_at hl 0 rfl) ?_
    refine lv_dup hx hb dX2_add_18 rfl ?_
    refine va_get (D := D) (ci := 2) (v := .int nan) (C := RX2) (T := TX2) (N := 2) hx hb hts hiX2 hown hK hP 0 rfl rfl 1 (by decide) (hts _ (List.mem_of_getElem? (i := 2) rfl)) (fun _ h9 => h9) rfl dX2_add_19 ?_
    refine lv_iconst (v := 1) hx hb dX2_add_22 (by decide) ?_
    refine lv_iadd hx hb dX2_add_23 ?_
    refine lv_topi (fun y_11 ey_11 => ?_)
    have h_12 : z_in 1 7 y_11 := by rw [ey_11]; exact z_add h_9 (z_lit (x := 1) (a := 1) (b := 1) rfl) rfl rfl
    have ty_11 : y_11.toInt = nan.toInt + 1 := by rw [ey_11]; exact (z_addT h_9 (z_lit (x := 1) (a := 1) (b := 1) rfl) rfl).trans rfl
    refine va_put (D := D) (ci := 2) (v := .int y_11) (ty := tyX2 1) (C := RX2) (T := TX2) (N := 2) hx hb hts hiX2 tyX2 tyX2_ok nmX2 hown hK hP hD hS 0 rfl rfl 1 (by decide) (hts _ (List.mem_of_getElem? (i := 2) rfl)) (fun _ h9 => h9) rfl (tyX2_ok 1 (by decide)) rfl rfl (Nat.le_of_ble_eq_true rfl) dX2_add_24 (fun H locs hP hD hS => ?_)
    have hP : va_P D vwCl [(na, .inr (2, [.ref nac, .int y_11])), (nac, .inl (nact, 7, .inr (.inl f_10)))] H := hP
    have hD : va_D A [(na, .inr (2, [.ref nac, .int y_11])), (nac, .inl (nact, 7, .inr (.inl f_10)))] := hD
    exact hret ([(na, .inr (2, [.ref nac, .int y_11])), (nac, .inl (nact, 7, .inr (.inl f_10)))], []) _ _ _ _ dX2_add_27 ⟨y_11, f_10, (z_w (c := 0) (d := 7) h_12 rfl), rfl⟩ hP (hK.sub [] rfl) hD hS

set_option maxHeartbeats 8000000 in
set_option maxRecDepth 100000 in
theorem w_Names7_get (l : Launch) (D : va_G) (ad : Nat → Nat) (na : Nat) (nan : Int32) (nac : Nat) (nact : ClassId) (nacf : Nat → Int64) (i0 : Int32) (hnan : z_in 0 7 nan) : z_Ml l yX2_get wsX2_get { frames := 0, cells := 0, slots := 0, locals := 0 } D ad [.ref na, .int i0] [(na, .inr (2, [.ref nac, .int nan])), (nac, .inl (nact, 7, .inr (.inl nacf)))] [(nact, .long)] 0 0 (fun r9 u9 => u9 = ([(na, .inr (2, [.ref nac, .int nan])), (nac, .inl (nact, 7, .inr (.inl nacf)))], [])) := by
  refine z_ofL (cc := cX2_get) (maxL := 2) (by decide) rfl (Nat.le_of_ble_eq_true rfl) ?_
  intro p e s m below meth c Q A ls hx hb hml hown hts hin hK hP hD hA hE hO hS hl hret
  have hown : s.vm.findClass RX2 = some m.cls := hown
  have hiX2 : ∀ w ∈ wsX20, w ∈ wsX2_get := fun _ h9 => List.mem_cons_of_mem _ (List.mem_append_right _ h9)
  have hl : lv_has ls 2 [(0, .ref na), (1, .int i0)] := hl
  refine lv_iload_n hx hb dX2_get_0 rfl (lv_at hl 1 rfl) ?_
  refine lv_if_lt (tgt := 30) hx hb dX2_get_1 (by decide) (fun c_1 => ?_) (fun c_1 => ?_)
  · skip
    have h_2 : z_in (-2147483648) (-1) i0 := z_ltL c_1 (z_any i0) (z_lit (x := 0) (a := 0) (b := 0) rfl) rfl
    refine lv_lconst (v := 0) hx hb dX2_get_30 (by decide) ?_
    exact hret 0 ([(na, .inr (2, [.ref nac, .int nan])), (nac, .inl (nact, 7, .inr (.inl nacf)))], []) _ _ _ _ dX2_get_31 rfl hP (hK.sub [] rfl) hD hS
  · skip
    have h_3 : z_in 0 2147483647 i0 := z_leR (Int32.not_lt.mp c_1) (z_lit (x := 0) (a := 0) (b := 0) rfl) (z_any i0) rfl
    refine lv_iload_n hx hb dX2_get_4 rfl (lv_at hl 1 rfl) ?_
    refine lv_aload_n hx hb dX2_get_5 rfl (lv_at hl 0 rfl) ?_
    refine va_get (D := D) (ci := 2) (v := .int nan) (C := RX2) (T := TX2) (N := 2) hx hb hts hiX2 hown hK hP 0 rfl rfl 1 (by decide) (hts _ (List.mem_of_getElem? (i := 1) rfl)) (fun _ h9 => h9) rfl dX2_get_6 ?_
    refine lv_icmp_ge (tgt := 30) hx hb dX2_get_9 (by decide) (fun c_4 => ?_) (fun c_4 => ?_)
    · skip
      refine lv_lconst (v := 0) hx hb dX2_get_30 (by decide) ?_
      exact hret 0 ([(na, .inr (2, [.ref nac, .int nan])), (nac, .inl (nact, 7, .inr (.inl nacf)))], []) _ _ _ _ dX2_get_31 rfl hP (hK.sub [] rfl) hD hS
    · skip
      have h_5 : z_in 0 6 i0 := z_ltL (Int32.not_le.mp c_4) h_3 hnan rfl
      have h_6 : z_in 1 7 nan := z_ltR (Int32.not_le.mp c_4) h_3 hnan rfl
      refine lv_iload_n hx hb dX2_get_12 rfl (lv_at hl 1 rfl) ?_
      refine lv_aload_n hx hb dX2_get_13 rfl (lv_at hl 0 rfl) ?_
      refine va_get (D := D) (ci := 2) (v := .ref nac) (C := RX2) (T := TX2) (N := 2) hx hb hts hiX2 hown hK hP 0 rfl rfl 0 (by decide) (hts _ (List.mem_of_getElem? (i := 2) rfl)) (fun _ h9 => h9) rfl dX2_get_14 ?_
      refine va_alen (v := 7) hx hb hK hP 1 0 rfl rfl rfl dX2_get_17 ?_
      refine lv_icmp_ge (tgt := 30) hx hb dX2_get_18 (by decide) (fun c_7 => ?_) (fun c_7 => ?_)
      · skip
        exact (z_no (z_leL (e := 6) c_7 (z_lit (x := 7) (a := 7) (b := 7) rfl) h_5 rfl) rfl).elim
      · skip
        refine lv_aload_n hx hb dX2_get_21 rfl (lv_at hl 0 rfl) ?_
        refine va_get (D := D) (ci := 2) (v := .ref nac) (C := RX2) (T := TX2) (N := 2) hx hb hts hiX2 hown hK hP 0 rfl rfl 0 (by decide) (hts _ (List.mem_of_getElem? (i := 2) rfl)) (fun _ h9 => h9) rfl dX2_get_22 ?_
        refine lv_iload_n hx hb dX2_get_25 rfl (lv_at hl 1 rfl) ?_
        refine va_lald hx hb hK hP 1 0 rfl rfl (z_vp h_5 rfl) dX2_get_26 ?_
        refine lv_topl (fun y_8 ey_8 => ?_)
        refine lv_goto (tgt := 31) hx hb dX2_get_27 (by decide) ?_
        exact hret y_8 ([(na, .inr (2, [.ref nac, .int nan])), (nac, .inl (nact, 7, .inr (.inl nacf)))], []) _ _ _ _ dX2_get_31 rfl hP (hK.sub [] rfl) hD hS

set_option maxHeartbeats 8000000 in
set_option maxRecDepth 100000 in
theorem w_Names7_copyFrom (l : Launch) (D : va_G) (ad : Nat → Nat) (na : Nat) (nan : Int32) (nac : Nat) (nact : ClassId) (nacf : Nat → Int64) (nb : Nat) (nbn : Int32) (nbc : Nat) (nbct : ClassId) (nbcf : Nat → Int64) (hnan : z_in 0 7 nan) (hnbn : z_in 0 7 nbn) : z_Mv l yX2_copyFrom wsX2_copyFrom { frames := 1, cells := 0, slots := 0, locals := 80 } D ad [.ref na, .ref nb] [(na, .inr (2, [.ref nac, .int nan])), (nac, .inl (nact, 7, .inr (.inl nacf))), (nb, .inr (2, [.ref nbc, .int nbn])), (nbc, .inl (nbct, 7, .inr (.inl nbcf)))] [(nact, .long), (nbct, .long)] 0 0 (fun u9 => ∃ (x0_1 : Int32) (x1_f : Nat → Int64), z_in 0 7 x0_1 ∧ z_sz x0_1 nbn ∧ z_lq x1_f x0_1 nbcf nbn ∧ u9 = ([(na, .inr (2, [.ref nac, .int x0_1])), (nac, .inl (nact, 7, .inr (.inl x1_f))), (nb, .inr (2, [.ref nbc, .int nbn])), (nbc, .inl (nbct, 7, .inr (.inl nbcf)))], [])) := by
  refine z_ofV (cc := cX2_copyFrom) (maxL := 2) (by decide) rfl (Nat.le_of_ble_eq_true rfl) ?_
  intro p e s m below meth c Q A ls hx hb hml hown hts hin hK hP hD hA hE hO hS hl hret
  have hown : s.vm.findClass RX2 = some m.cls := hown
  have hiX2 : ∀ w ∈ wsX20, w ∈ wsX2_copyFrom := fun _ h9 => List.mem_cons_of_mem _ (List.mem_append_right _ h9)
  have hl : lv_has ls 2 [(0, .ref na), (1, .ref nb)] := hl
  refine lv_aload_n hx hb dX2_copyFrom_0 rfl (lv_at hl 0 rfl) ?_
  refine lv_aload_n hx hb dX2_copyFrom_1 rfl (lv_at hl 1 rfl) ?_
  refine va_get (D := D) (ci := 2) (v := .int nbn) (C := RX2) (T := TX2) (N := 2) hx hb hts hiX2 hown hK hP 2 rfl rfl 1 (by decide) (hts _ (List.mem_of_getElem? (i := 1) rfl)) (fun _ h9 => h9) rfl dX2_copyFrom_2 ?_
  refine va_put (D := D) (ci := 2) (v := .int nbn) (ty := tyX2 1) (C := RX2) (T := TX2) (N := 2) hx hb hts hiX2 tyX2 tyX2_ok nmX2 hown hK hP hD hS 0 rfl rfl 1 (by decide) (hts _ (List.mem_of_getElem? (i := 1) rfl)) (fun _ h9 => h9) rfl (tyX2_ok 1 (by decide)) rfl rfl (Nat.le_of_ble_eq_true rfl) dX2_copyFrom_5 (fun H locs hP hD hS => ?_)
  have hP : va_P D vwCl [(na, .inr (2, [.ref nac, .int nbn])), (nac, .inl (nact, 7, .inr (.inl nacf))), (nb, .inr (2, [.ref nbc, .int nbn])), (nbc, .inl (nbct, 7, .inr (.inl nbcf)))] H := hP
  have hD : va_D A [(na, .inr (2, [.ref nac, .int nbn])), (nac, .inl (nact, 7, .inr (.inl nacf))), (nb, .inr (2, [.ref nbc, .int nbn])), (nbc, .inl (nbct, 7, .inr (.inl nbcf)))] := hD
  refine lv_aload_n hx hb dX2_copyFrom_8 rfl (lv_at hl 1 rfl) ?_
  refine va_get (D := D) (ci := 2) (v := .ref nbc) (C := RX2) (T := TX2) (N := 2) hx hb hts hiX2 hown hK hP 2 rfl rfl 0 (by decide) (hts _ (List.mem_of_getElem? (i := 2) rfl)) (fun _ h9 => h9) rfl dX2_copyFrom_9 ?_
  refine lv_iconst (v := 0) hx hb dX2_copyFrom_12 (by decide) ?_
  refine lv_aload_n hx hb dX2_copyFrom_13 rfl (lv_at hl 0 rfl) ?_
  refine va_get (D := D) (ci := 2) (v := .ref nac) (C := RX2) (T := TX2) (N := 2) hx hb hts hiX2 hown hK hP 0 rfl rfl 0 (by decide) (hts _ (List.mem_of_getElem? (i := 2) rfl)) (fun _ h9 => h9) rfl dX2_copyFrom_14 ?_
  refine lv_iconst (v := 0) hx hb dX2_copyFrom_17 (by decide) ?_
  refine lv_aload_n hx hb dX2_copyFrom_18 rfl (lv_at hl 0 rfl) ?_
  refine va_get (D := D) (ci := 2) (v := .ref nac) (C := RX2) (T := TX2) (N := 2) hx hb hts hiX2 hown hK hP 0 rfl rfl 0 (by decide) (hts _ (List.mem_of_getElem? (i := 2) rfl)) (fun _ h9 => h9) rfl dX2_copyFrom_19 ?_
  refine va_alen (v := 7) hx hb hK hP 1 0 rfl rfl rfl dX2_copyFrom_22 ?_
  refine va_copyl hx hb (by rw [hml]; exact hl.1.symm) hown (hts _ (List.mem_of_getElem? (i := 3) rfl)) (hts _ (List.mem_of_getElem? (i := 4) rfl)) (hts _ (List.mem_of_getElem? (i := 5) rfl)) (hts _ (List.mem_of_getElem? (i := 6) rfl)) hK hP hD hS 3 1 1 0 rfl rfl rfl rfl rfl (by decide) (by decide) (by decide) (by decide) (by decide) (fun _ _ => rfl) (Nat.le_of_ble_eq_true rfl) (Nat.le_of_ble_eq_true rfl) dX2_copyFrom_23 (fun H locs hP hD hS => ?_)
  have hP : va_P D vwCl [(na, .inr (2, [.ref nac, .int nbn])), (nac, .inl (nact, 7, .inr (.inl (va_cpy nbcf nacf 0 0 7)))), (nb, .inr (2, [.ref nbc, .int nbn])), (nbc, .inl (nbct, 7, .inr (.inl nbcf)))] H := hP
  have hD : va_D A [(na, .inr (2, [.ref nac, .int nbn])), (nac, .inl (nact, 7, .inr (.inl (va_cpy nbcf nacf 0 0 7)))), (nb, .inr (2, [.ref nbc, .int nbn])), (nbc, .inl (nbct, 7, .inr (.inl nbcf)))] := hD
  generalize ef_1 : (va_cpy nbcf nacf 0 0 7) = f_1 at hP hD
  exact hret ([(na, .inr (2, [.ref nac, .int nbn])), (nac, .inl (nact, 7, .inr (.inl f_1))), (nb, .inr (2, [.ref nbc, .int nbn])), (nbc, .inl (nbct, 7, .inr (.inl nbcf)))], []) _ _ _ _ dX2_copyFrom_26 ⟨nbn, f_1, hnbn, (show z_sz nbn nbn from rfl), (z_lqI ef_1 hnbn rfl), rfl⟩ hP (hK.sub [] rfl) hD hS

set_option maxHeartbeats 8000000 in
set_option maxRecDepth 100000 in
theorem s_Names6_add (l : Launch) (D : va_G) (ad : Nat → Nat) (na : Nat) (nan : Int32) (nac : Nat) (nact : ClassId) (nacf : Nat → Int64) (j0 : Int64) (hnan : z_in 0 5 nan) : z_Mv l yX2_add wsX2_add { frames := 1, cells := 0, slots := 0, locals := 20 } D ad [.ref na, .long j0] [(na, .inr (2, [.ref nac, .int nan])), (nac, .inl (nact, 6, .inr (.inl nacf)))] [(nact, .long)] 0 0 (fun u9 => ∃ (x0_1 : Int32) (x1_f : Nat → Int64), z_in 1 6 x0_1 ∧ z_na x1_f nacf x0_1 nan j0 ∧ u9 = ([(na, .inr (2, [.ref nac, .int x0_1])), (nac, .inl (nact, 6, .inr (.inl x1_f)))], [])) := by
  refine z_ofV (cc := cX2_add) (maxL := 3) (by decide) rfl (Nat.le_of_ble_eq_true rfl) ?_
  intro p e s m below meth c Q A ls hx hb hml hown hts hin hK hP hD hA hE hO hS hl hret
  have hown : s.vm.findClass RX2 = some m.cls := hown
  have hiX2 : ∀ w ∈ wsX20, w ∈ wsX2_add := fun _ h9 => List.mem_cons_of_mem _ (List.mem_append_right _ h9)
  have hl : lv_has ls 3 [(0, .ref na), (1, .long j0)] := hl
  refine lv_aload_n hx hb dX2_add_0 rfl (lv_at hl 0 rfl) ?_
  have hc9 := (w_Names6_isFull l D ad na nan nac nact nacf (z_w (c := 0) (d := 6) hnan rfl))
  refine z_calli (w0 := [(na, .inr (2, [.ref nac, .int nan])), (nac, .inl (nact, 6, .inr (.inl nacf)))]) (wr := []) (va_runV (As := []) (rest := []) ⟨hx, hb, hml, hown, hts⟩ (hc9 _) (cwV 0 hts gX2_add_X2_isFull rfl rfl rfl (by decide +kernel) ⟨Nat.le_of_ble_eq_true rfl, Nat.le_of_ble_eq_true rfl⟩) (z_preV hP hD hK hS hA hE hO [0, 1] [0] rfl (by decide +kernel) rfl 0 2 rfl rfl rfl) rfl rfl hl.1 rfl (lv_room (Nat.le_of_ble_eq_true rfl)) dX2_add_1 ⟨Nat.le_of_ble_eq_true rfl, Nat.le_of_ble_eq_true rfl⟩) hP hD hK hS hA [0, 1] [] rfl rfl (by decide +kernel) (by decide +kernel) (fun y_1 u9 H locs hw hP hD hK hS => ?_)
  obtain ⟨h_2, h_3, h_4, rfl⟩ := hw
  have hP : va_P D vwCl [(na, .inr (2, [.ref nac, .int nan])), (nac, .inl (nact, 6, .inr (.inl nacf)))] H := hP
  have hD : va_D A [(na, .inr (2, [.ref nac, .int nan])), (nac, .inl (nact, 6, .inr (.inl nacf)))] := hD
  have hK : va_K D vwCl [(nact, .long)] s := hK
  refine W.cs (cells' := 0) (slots' := 0) rfl rfl ?_
  refine W.eq (g2 := F0 m 4 ls (.int y_1 :: [])) rfl ?_
  refine lv_if_ne (tgt := 27) hx hb dX2_add_4 (by decide) (fun c_5 => ?_) (fun c_5 => ?_)
  · skip
    have h_6 : z_in 1 1 y_1 := z_neLo c_5 h_2 (z_lit (x := 0) (a := 0) (b := 0) rfl) rfl
    exact (z_no (z_both (e := 6) (f := 5) hnan (h_4 (z_eqk h_6 rfl)) rfl) rfl).elim
  · skip
    have h_7 : z_in 0 0 y_1 := z_leL (Int32.le_of_eq c_5) h_2 (z_lit (x := 0) (a := 0) (b := 0) rfl) rfl
    refine lv_aload_n hx hb dX2_add_7 rfl (lv_at hl 0 rfl) ?_
    refine va_get (D := D) (ci := 2) (v := .ref nac) (C := RX2) (T := TX2) (N := 2) hx hb hts hiX2 hown hK hP 0 rfl rfl 0 (by decide) (hts _ (List.mem_of_getElem? (i := 1) rfl)) (fun _ h9 => h9) rfl dX2_add_8 ?_
    refine lv_aload_n hx hb dX2_add_11 rfl (lv_at hl 0 rfl) ?_
    refine va_get (D := D) (ci := 2) (v := .int nan) (C := RX2) (T := TX2) (N := 2) hx hb hts hiX2 hown hK hP 0 rfl rfl 1 (by decide) (hts _ (List.mem_of_getElem? (i := 2) rfl)) (fun _ h9 => h9) rfl dX2_add_12 ?_
    refine lv_lload_n hx hb dX2_add_15 rfl (lv_at hl 1 rfl) ?_
    refine va_last hx hb hK hP hD hS 1 0 rfl rfl (z_vp hnan rfl) dX2_add_16 (fun H locs hP hD hS => ?_)
    generalize ef_8 : (vp_updL nacf (nan : Int32).toNatClampNeg j0) = f_8 at hP hD
    have hP : va_P D vwCl [(na, .inr (2, [.ref nac, .int nan])), (nac, .inl (nact, 6, .inr (.inl f_8)))] H := hP
    have hD : va_D A [(na, .inr (2, [.ref nac, .int nan])), (nac, .inl (nact, 6, .inr (.inl f_8)))] := hD
    refine lv_aload_n hx hb dX2_add_17 rfl (lv_at hl 0 rfl) ?_
    refine lv_dup hx hb dX2_add_18 rfl ?_
    refine va_get (D := D) (ci := 2) (v := .int nan) (C := RX2) (T := TX2) (N := 2) hx hb hts hiX2 hown hK hP 0 rfl rfl 1 (by decide) (hts _ (List.mem_of_getElem? (i := 2) rfl)) (fun _ h9 => h9) rfl dX2_add_19 ?_
    refine lv_iconst (v := 1) hx hb dX2_add_22 (by decide) ?_
    refine lv_iadd hx hb dX2_add_23 ?_
    refine lv_topi (fun y_9 ey_9 => ?_)
    have h_10 : z_in 1 6 y_9 := by rw [ey_9]; exact z_add hnan (z_lit (x := 1) (a := 1) (b := 1) rfl) rfl rfl
    have ty_9 : y_9.toInt = nan.toInt + 1 := by rw [ey_9]; exact (z_addT hnan (z_lit (x := 1) (a := 1) (b := 1) rfl) rfl).trans rfl
    refine va_put (D := D) (ci := 2) (v := .int y_9) (ty := tyX2 1) (C := RX2) (T := TX2) (N := 2) hx hb hts hiX2 tyX2 tyX2_ok nmX2 hown hK hP hD hS 0 rfl rfl 1 (by decide) (hts _ (List.mem_of_getElem? (i := 2) rfl)) (fun _ h9 => h9) rfl (tyX2_ok 1 (by decide)) rfl rfl (Nat.le_of_ble_eq_true rfl) dX2_add_24 (fun H locs hP hD hS => ?_)
    have hP : va_P D vwCl [(na, .inr (2, [.ref nac, .int y_9])), (nac, .inl (nact, 6, .inr (.inl f_8)))] H := hP
    have hD : va_D A [(na, .inr (2, [.ref nac, .int y_9])), (nac, .inl (nact, 6, .inr (.inl f_8)))] := hD
    exact hret ([(na, .inr (2, [.ref nac, .int y_9])), (nac, .inl (nact, 6, .inr (.inl f_8)))], []) _ _ _ _ dX2_add_27 ⟨y_9, f_8, h_10, (z_naI ef_8 ty_9 (z_w (c := 0) (d := 7) hnan rfl)), rfl⟩ hP (hK.sub [] rfl) hD hS
