theorem dX4_whereIs_0 : decode cX4_whereIs 0 = .ok (.aload_n 0, 1) := by decide +kernel
theorem dX4_whereIs_1 : decode cX4_whereIs 1 = .ok (.getfield 18, 3) := by decide +kernel
theorem dX4_whereIs_4 : decode cX4_whereIs 4 = .ok (.iload_n 1, 1) := by decide +kernel
theorem dX4_whereIs_5 : decode cX4_whereIs 5 = .ok (.iaload, 1) := by decide +kernel
theorem dX4_whereIs_6 : decode cX4_whereIs 6 = .ok (.istore_n 2, 1) := by decide +kernel
theorem dX4_whereIs_7 : decode cX4_whereIs 7 = .ok (.iload_n 2, 1) := by decide +kernel
theorem dX4_whereIs_8 : decode cX4_whereIs 8 = .ok (.iconst (-1), 1) := by decide +kernel
theorem dX4_whereIs_9 : decode cX4_whereIs 9 = .ok (.if_icmp .ne 12, 3) := by decide +kernel
theorem dX4_whereIs_12 : decode cX4_whereIs 12 = .ok (.aload_n 0, 1) := by decide +kernel
theorem dX4_whereIs_13 : decode cX4_whereIs 13 = .ok (.getfield 15, 3) := by decide +kernel
theorem dX4_whereIs_16 : decode cX4_whereIs 16 = .ok (.iload_n 1, 1) := by decide +kernel
theorem dX4_whereIs_17 : decode cX4_whereIs 17 = .ok (.iaload, 1) := by decide +kernel
theorem dX4_whereIs_18 : decode cX4_whereIs 18 = .ok (.goto 9, 3) := by decide +kernel
theorem dX4_whereIs_21 : decode cX4_whereIs 21 = .ok (.aload_n 0, 1) := by decide +kernel
theorem dX4_whereIs_22 : decode cX4_whereIs 22 = .ok (.getfield 9, 3) := by decide +kernel
theorem dX4_whereIs_25 : decode cX4_whereIs 25 = .ok (.iload_n 2, 1) := by decide +kernel
theorem dX4_whereIs_26 : decode cX4_whereIs 26 = .ok (.iaload, 1) := by decide +kernel
theorem dX4_whereIs_27 : decode cX4_whereIs 27 = .ok (.ireturn, 1) := by decide +kernel
theorem dX4_reach_0 : decode cX4_reach 0 = .ok (.aload_n 0, 1) := by decide +kernel
theorem dX4_reach_1 : decode cX4_reach 1 = .ok (.getfield 21, 3) := by decide +kernel
theorem dX4_reach_4 : decode cX4_reach 4 = .ok (.iload_n 1, 1) := by decide +kernel
theorem dX4_reach_5 : decode cX4_reach 5 = .ok (.iaload, 1) := by decide +kernel
theorem dX4_reach_6 : decode cX4_reach 6 = .ok (.aload_n 0, 1) := by decide +kernel
theorem dX4_reach_7 : decode cX4_reach 7 = .ok (.getfield 24, 3) := by decide +kernel
theorem dX4_reach_10 : decode cX4_reach 10 = .ok (.getfield 92, 3) := by decide +kernel
theorem dX4_reach_13 : decode cX4_reach 13 = .ok (.imul, 1) := by decide +kernel
theorem dX4_reach_14 : decode cX4_reach 14 = .ok (.ireturn, 1) := by decide +kernel
theorem dX4_personsIn_0 : decode cX4_personsIn 0 = .ok (.iconst 0, 1) := by decide +kernel
theorem dX4_personsIn_1 : decode cX4_personsIn 1 = .ok (.istore_n 2, 1) := by decide +kernel
theorem dX4_personsIn_2 : decode cX4_personsIn 2 = .ok (.iconst 0, 1) := by decide +kernel
theorem dX4_personsIn_3 : decode cX4_personsIn 3 = .ok (.istore_n 3, 1) := by decide +kernel
theorem dX4_personsIn_4 : decode cX4_personsIn 4 = .ok (.iload_n 3, 1) := by decide +kernel
theorem dX4_personsIn_5 : decode cX4_personsIn 5 = .ok (.aload_n 0, 1) := by decide +kernel
theorem dX4_personsIn_6 : decode cX4_personsIn 6 = .ok (.getfield 24, 3) := by decide +kernel
theorem dX4_personsIn_9 : decode cX4_personsIn 9 = .ok (.getfield 38, 3) := by decide +kernel
theorem dX4_personsIn_12 : decode cX4_personsIn 12 = .ok (.getfield 44, 3) := by decide +kernel
theorem dX4_personsIn_15 : decode cX4_personsIn 15 = .ok (.if_icmp .ge 25, 3) := by decide +kernel
theorem dX4_personsIn_18 : decode cX4_personsIn 18 = .ok (.aload_n 0, 1) := by decide +kernel
theorem dX4_personsIn_19 : decode cX4_personsIn 19 = .ok (.getfield 9, 3) := by decide +kernel
theorem dX4_personsIn_22 : decode cX4_personsIn 22 = .ok (.iload_n 3, 1) := by decide +kernel
theorem dX4_personsIn_23 : decode cX4_personsIn 23 = .ok (.iaload, 1) := by decide +kernel
theorem dX4_personsIn_24 : decode cX4_personsIn 24 = .ok (.iload_n 1, 1) := by decide +kernel
theorem dX4_personsIn_25 : decode cX4_personsIn 25 = .ok (.if_icmp .ne 9, 3) := by decide +kernel
theorem dX4_personsIn_28 : decode cX4_personsIn 28 = .ok (.iload_n 2, 1) := by decide +kernel
theorem dX4_personsIn_29 : decode cX4_personsIn 29 = .ok (.iconst 1, 1) := by decide +kernel
theorem dX4_personsIn_30 : decode cX4_personsIn 30 = .ok (.iload_n 3, 1) := by decide +kernel
theorem dX4_personsIn_31 : decode cX4_personsIn 31 = .ok (.ishl, 1) := by decide +kernel
theorem dX4_personsIn_32 : decode cX4_personsIn 32 = .ok (.ior, 1) := by decide +kernel
theorem dX4_personsIn_33 : decode cX4_personsIn 33 = .ok (.istore_n 2, 1) := by decide +kernel
theorem dX4_personsIn_34 : decode cX4_personsIn 34 = .ok (.iinc 3 1, 3) := by decide +kernel
theorem dX4_personsIn_37 : decode cX4_personsIn 37 = .ok (.goto (-33), 3) := by decide +kernel
theorem dX4_personsIn_40 : decode cX4_personsIn 40 = .ok (.iload_n 2, 1) := by decide +kernel
theorem dX4_personsIn_41 : decode cX4_personsIn 41 = .ok (.ireturn, 1) := by decide +kernel
theorem dX4_umbrellasIn_0 : decode cX4_umbrellasIn 0 = .ok (.iconst 0, 1) := by decide +kernel
theorem dX4_umbrellasIn_1 : decode cX4_umbrellasIn 1 = .ok (.istore_n 2, 1) := by decide +kernel
theorem dX4_umbrellasIn_2 : decode cX4_umbrellasIn 2 = .ok (.iconst 0, 1) := by decide +kernel
theorem dX4_umbrellasIn_3 : decode cX4_umbrellasIn 3 = .ok (.istore_n 3, 1) := by decide +kernel
theorem dX4_umbrellasIn_4 : decode cX4_umbrellasIn 4 = .ok (.iload_n 3, 1) := by decide +kernel
theorem dX4_umbrellasIn_5 : decode cX4_umbrellasIn 5 = .ok (.aload_n 0, 1) := by decide +kernel
theorem dX4_umbrellasIn_6 : decode cX4_umbrellasIn 6 = .ok (.getfield 24, 3) := by decide +kernel
theorem dX4_umbrellasIn_9 : decode cX4_umbrellasIn 9 = .ok (.getfield 52, 3) := by decide +kernel
theorem dX4_umbrellasIn_12 : decode cX4_umbrellasIn 12 = .ok (.getfield 44, 3) := by decide +kernel
theorem dX4_umbrellasIn_15 : decode cX4_umbrellasIn 15 = .ok (.if_icmp .ge 24, 3) := by decide +kernel
theorem dX4_umbrellasIn_18 : decode cX4_umbrellasIn 18 = .ok (.aload_n 0, 1) := by decide +kernel
theorem dX4_umbrellasIn_19 : decode cX4_umbrellasIn 19 = .ok (.iload_n 3, 1) := by decide +kernel
theorem dX4_umbrellasIn_20 : decode cX4_umbrellasIn 20 = .ok (.invokevirtual 95, 3) := by decide +kernel
theorem dX4_umbrellasIn_23 : decode cX4_umbrellasIn 23 = .ok (.iload_n 1, 1) := by decide +kernel
theorem dX4_umbrellasIn_24 : decode cX4_umbrellasIn 24 = .ok (.if_icmp .ne 9, 3) := by decide +kernel
theorem dX4_umbrellasIn_27 : decode cX4_umbrellasIn 27 = .ok (.iload_n 2, 1) := by decide +kernel
theorem dX4_umbrellasIn_28 : decode cX4_umbrellasIn 28 = .ok (.iconst 1, 1) := by decide +kernel
theorem dX4_umbrellasIn_29 : decode cX4_umbrellasIn 29 = .ok (.iload_n 3, 1) := by decide +kernel
theorem dX4_umbrellasIn_30 : decode cX4_umbrellasIn 30 = .ok (.ishl, 1) := by decide +kernel
theorem dX4_umbrellasIn_31 : decode cX4_umbrellasIn 31 = .ok (.ior, 1) := by decide +kernel
theorem dX4_umbrellasIn_32 : decode cX4_umbrellasIn 32 = .ok (.istore_n 2, 1) := by decide +kernel
theorem dX4_umbrellasIn_33 : decode cX4_umbrellasIn 33 = .ok (.iinc 3 1, 3) := by decide +kernel
theorem dX4_umbrellasIn_36 : decode cX4_umbrellasIn 36 = .ok (.goto (-32), 3) := by decide +kernel
theorem dX4_umbrellasIn_39 : decode cX4_umbrellasIn 39 = .ok (.iload_n 2, 1) := by decide +kernel
theorem dX4_umbrellasIn_40 : decode cX4_umbrellasIn 40 = .ok (.ireturn, 1) := by decide +kernel
theorem dX4_isAlone_0 : decode cX4_isAlone 0 = .ok (.aload_n 0, 1) := by decide +kernel
theorem dX4_isAlone_1 : decode cX4_isAlone 1 = .ok (.aload_n 0, 1) := by decide +kernel
theorem dX4_isAlone_2 : decode cX4_isAlone 2 = .ok (.getfield 9, 3) := by decide +kernel
theorem dX4_isAlone_5 : decode cX4_isAlone 5 = .ok (.iload_n 1, 1) := by decide +kernel
theorem dX4_isAlone_6 : decode cX4_isAlone 6 = .ok (.iaload, 1) := by decide +kernel
theorem dX4_isAlone_7 : decode cX4_isAlone 7 = .ok (.invokevirtual 98, 3) := by decide +kernel
theorem dX4_isAlone_10 : decode cX4_isAlone 10 = .ok (.iconst 1, 1) := by decide +kernel
theorem dX4_isAlone_11 : decode cX4_isAlone 11 = .ok (.iload_n 1, 1) := by decide +kernel
theorem dX4_isAlone_12 : decode cX4_isAlone 12 = .ok (.ishl, 1) := by decide +kernel
theorem dX4_isAlone_13 : decode cX4_isAlone 13 = .ok (.if_icmp .ne 7, 3) := by decide +kernel
theorem dX4_isAlone_16 : decode cX4_isAlone 16 = .ok (.iconst 1, 1) := by decide +kernel
theorem dX4_isAlone_17 : decode cX4_isAlone 17 = .ok (.goto 4, 3) := by decide +kernel
theorem dX4_isAlone_20 : decode cX4_isAlone 20 = .ok (.iconst 0, 1) := by decide +kernel
theorem dX4_isAlone_21 : decode cX4_isAlone 21 = .ok (.ireturn, 1) := by decide +kernel
theorem dX4_carriedBy_0 : decode cX4_carriedBy 0 = .ok (.iconst 0, 1) := by decide +kernel
theorem dX4_carriedBy_1 : decode cX4_carriedBy 1 = .ok (.istore_n 2, 1) := by decide +kernel
theorem dX4_carriedBy_2 : decode cX4_carriedBy 2 = .ok (.iconst 0, 1) := by decide +kernel
theorem dX4_carriedBy_3 : decode cX4_carriedBy 3 = .ok (.istore_n 3, 1) := by decide +kernel
theorem dX4_carriedBy_4 : decode cX4_carriedBy 4 = .ok (.iload_n 3, 1) := by decide +kernel
theorem dX4_carriedBy_5 : decode cX4_carriedBy 5 = .ok (.aload_n 0, 1) := by decide +kernel
theorem dX4_carriedBy_6 : decode cX4_carriedBy 6 = .ok (.getfield 24, 3) := by decide +kernel
theorem dX4_carriedBy_9 : decode cX4_carriedBy 9 = .ok (.getfield 52, 3) := by decide +kernel
theorem dX4_carriedBy_12 : decode cX4_carriedBy 12 = .ok (.getfield 44, 3) := by decide +kernel
theorem dX4_carriedBy_15 : decode cX4_carriedBy 15 = .ok (.if_icmp .ge 25, 3) := by decide +kernel
theorem dX4_carriedBy_18 : decode cX4_carriedBy 18 = .ok (.aload_n 0, 1) := by decide +kernel
theorem dX4_carriedBy_19 : decode cX4_carriedBy 19 = .ok (.getfield 18, 3) := by decide +kernel
theorem dX4_carriedBy_22 : decode cX4_carriedBy 22 = .ok (.iload_n 3, 1) := by decide +kernel
theorem dX4_carriedBy_23 : decode cX4_carriedBy 23 = .ok (.iaload, 1) := by decide +kernel
theorem dX4_carriedBy_24 : decode cX4_carriedBy 24 = .ok (.iload_n 1, 1) := by decide +kernel
theorem dX4_carriedBy_25 : decode cX4_carriedBy 25 = .ok (.if_icmp .ne 9, 3) := by decide +kernel
theorem dX4_carriedBy_28 : decode cX4_carriedBy 28 = .ok (.iload_n 2, 1) := by decide +kernel
theorem dX4_carriedBy_29 : decode cX4_carriedBy 29 = .ok (.iconst 1, 1) := by decide +kernel
theorem dX4_carriedBy_30 : decode cX4_carriedBy 30 = .ok (.iload_n 3, 1) := by decide +kernel
theorem dX4_carriedBy_31 : decode cX4_carriedBy 31 = .ok (.ishl, 1) := by decide +kernel
theorem dX4_carriedBy_32 : decode cX4_carriedBy 32 = .ok (.ior, 1) := by decide +kernel
theorem dX4_carriedBy_33 : decode cX4_carriedBy 33 = .ok (.istore_n 2, 1) := by decide +kernel
theorem dX4_carriedBy_34 : decode cX4_carriedBy 34 = .ok (.iinc 3 1, 3) := by decide +kernel
theorem dX4_carriedBy_37 : decode cX4_carriedBy 37 = .ok (.goto (-33), 3) := by decide +kernel
theorem dX4_carriedBy_40 : decode cX4_carriedBy 40 = .ok (.iload_n 2, 1) := by decide +kernel
theorem dX4_carriedBy_41 : decode cX4_carriedBy 41 = .ok (.ireturn, 1) := by decide +kernel
theorem dX4_carriedOnes_0 : decode cX4_carriedOnes 0 = .ok (.iconst 0, 1) := by decide +kernel
theorem dX4_carriedOnes_1 : decode cX4_carriedOnes 1 = .ok (.istore_n 1, 1) := by decide +kernel
theorem dX4_carriedOnes_2 : decode cX4_carriedOnes 2 = .ok (.iconst 0, 1) := by decide +kernel
theorem dX4_carriedOnes_3 : decode cX4_carriedOnes 3 = .ok (.istore_n 2, 1) := by decide +kernel
theorem dX4_carriedOnes_4 : decode cX4_carriedOnes 4 = .ok (.iload_n 2, 1) := by decide +kernel
theorem dX4_carriedOnes_5 : decode cX4_carriedOnes 5 = .ok (.aload_n 0, 1) := by decide +kernel
theorem dX4_carriedOnes_6 : decode cX4_carriedOnes 6 = .ok (.getfield 24, 3) := by decide +kernel
theorem dX4_carriedOnes_9 : decode cX4_carriedOnes 9 = .ok (.getfield 52, 3) := by decide +kernel
theorem dX4_carriedOnes_12 : decode cX4_carriedOnes 12 = .ok (.getfield 44, 3) := by decide +kernel
theorem dX4_carriedOnes_15 : decode cX4_carriedOnes 15 = .ok (.if_icmp .ge 25, 3) := by decide +kernel
theorem dX4_carriedOnes_18 : decode cX4_carriedOnes 18 = .ok (.aload_n 0, 1) := by decide +kernel
theorem dX4_carriedOnes_19 : decode cX4_carriedOnes 19 = .ok (.getfield 18, 3) := by decide +kernel
theorem dX4_carriedOnes_22 : decode cX4_carriedOnes 22 = .ok (.iload_n 2, 1) := by decide +kernel
theorem dX4_carriedOnes_23 : decode cX4_carriedOnes 23 = .ok (.iaload, 1) := by decide +kernel
theorem dX4_carriedOnes_24 : decode cX4_carriedOnes 24 = .ok (.iconst (-1), 1) := by decide +kernel
theorem dX4_carriedOnes_25 : decode cX4_carriedOnes 25 = .ok (.if_icmp .eq 9, 3) := by decide +kernel
theorem dX4_carriedOnes_28 : decode cX4_carriedOnes 28 = .ok (.iload_n 1, 1) := by decide +kernel
theorem dX4_carriedOnes_29 : decode cX4_carriedOnes 29 = .ok (.iconst 1, 1) := by decide +kernel
theorem dX4_carriedOnes_30 : decode cX4_carriedOnes 30 = .ok (.iload_n 2, 1) := by decide +kernel
theorem dX4_carriedOnes_31 : decode cX4_carriedOnes 31 = .ok (.ishl, 1) := by decide +kernel
theorem dX4_carriedOnes_32 : decode cX4_carriedOnes 32 = .ok (.ior, 1) := by decide +kernel
theorem dX4_carriedOnes_33 : decode cX4_carriedOnes 33 = .ok (.istore_n 1, 1) := by decide +kernel
theorem dX4_carriedOnes_34 : decode cX4_carriedOnes 34 = .ok (.iinc 2 1, 3) := by decide +kernel
theorem dX4_carriedOnes_37 : decode cX4_carriedOnes 37 = .ok (.goto (-33), 3) := by decide +kernel
theorem dX4_carriedOnes_40 : decode cX4_carriedOnes 40 = .ok (.iload_n 1, 1) := by decide +kernel
theorem dX4_carriedOnes_41 : decode cX4_carriedOnes 41 = .ok (.ireturn, 1) := by decide +kernel
theorem dX4_openersFor_0 : decode cX4_openersFor 0 = .ok (.aload_n 0, 1) := by decide +kernel
theorem dX4_openersFor_1 : decode cX4_openersFor 1 = .ok (.aload_n 0, 1) := by decide +kernel
theorem dX4_openersFor_2 : decode cX4_openersFor 2 = .ok (.getfield 9, 3) := by decide +kernel
theorem dX4_openersFor_5 : decode cX4_openersFor 5 = .ok (.iload_n 1, 1) := by decide +kernel
theorem dX4_openersFor_6 : decode cX4_openersFor 6 = .ok (.iaload, 1) := by decide +kernel
theorem dX4_openersFor_7 : decode cX4_openersFor 7 = .ok (.aload_n 0, 1) := by decide +kernel
theorem dX4_openersFor_8 : decode cX4_openersFor 8 = .ok (.iload_n 1, 1) := by decide +kernel
theorem dX4_openersFor_9 : decode cX4_openersFor 9 = .ok (.invokevirtual 101, 3) := by decide +kernel
theorem dX4_openersFor_12 : decode cX4_openersFor 12 = .ok (.invokevirtual 104, 3) := by decide +kernel
theorem dX4_openersFor_15 : decode cX4_openersFor 15 = .ok (.ireturn, 1) := by decide +kernel
theorem dX4_openersIn_0 : decode cX4_openersIn 0 = .ok (.iconst 0, 1) := by decide +kernel
theorem dX4_openersIn_1 : decode cX4_openersIn 1 = .ok (.istore_n 3, 1) := by decide +kernel
theorem dX4_openersIn_2 : decode cX4_openersIn 2 = .ok (.iconst 0, 1) := by decide +kernel
theorem dX4_openersIn_3 : decode cX4_openersIn 3 = .ok (.istore 4, 2) := by decide +kernel
theorem dX4_openersIn_5 : decode cX4_openersIn 5 = .ok (.iload 4, 2) := by decide +kernel
theorem dX4_openersIn_7 : decode cX4_openersIn 7 = .ok (.aload_n 0, 1) := by decide +kernel
theorem dX4_openersIn_8 : decode cX4_openersIn 8 = .ok (.getfield 24, 3) := by decide +kernel
theorem dX4_openersIn_11 : decode cX4_openersIn 11 = .ok (.getfield 52, 3) := by decide +kernel
theorem dX4_openersIn_14 : decode cX4_openersIn 14 = .ok (.getfield 44, 3) := by decide +kernel
theorem dX4_openersIn_17 : decode cX4_openersIn 17 = .ok (.if_icmp .ge 36, 3) := by decide +kernel
theorem dX4_openersIn_20 : decode cX4_openersIn 20 = .ok (.aload_n 0, 1) := by decide +kernel
theorem dX4_openersIn_21 : decode cX4_openersIn 21 = .ok (.iload 4, 2) := by decide +kernel
theorem dX4_openersIn_23 : decode cX4_openersIn 23 = .ok (.invokevirtual 95, 3) := by decide +kernel
theorem dX4_openersIn_26 : decode cX4_openersIn 26 = .ok (.iload_n 1, 1) := by decide +kernel
theorem dX4_openersIn_27 : decode cX4_openersIn 27 = .ok (.if_icmp .ne 20, 3) := by decide +kernel
theorem dX4_openersIn_30 : decode cX4_openersIn 30 = .ok (.aload_n 0, 1) := by decide +kernel
theorem dX4_openersIn_31 : decode cX4_openersIn 31 = .ok (.iload 4, 2) := by decide +kernel
theorem dX4_openersIn_33 : decode cX4_openersIn 33 = .ok (.invokevirtual 107, 3) := by decide +kernel
theorem dX4_openersIn_36 : decode cX4_openersIn 36 = .ok (.iload_n 2, 1) := by decide +kernel
theorem dX4_openersIn_37 : decode cX4_openersIn 37 = .ok (.if_icmp .lt 10, 3) := by decide +kernel
theorem dX4_openersIn_40 : decode cX4_openersIn 40 = .ok (.iload_n 3, 1) := by decide +kernel
theorem dX4_openersIn_41 : decode cX4_openersIn 41 = .ok (.iconst 1, 1) := by decide +kernel
theorem dX4_openersIn_42 : decode cX4_openersIn 42 = .ok (.iload 4, 2) := by decide +kernel
theorem dX4_openersIn_44 : decode cX4_openersIn 44 = .ok (.ishl, 1) := by decide +kernel
theorem dX4_openersIn_45 : decode cX4_openersIn 45 = .ok (.ior, 1) := by decide +kernel
theorem dX4_openersIn_46 : decode cX4_openersIn 46 = .ok (.istore_n 3, 1) := by decide +kernel
theorem dX4_openersIn_47 : decode cX4_openersIn 47 = .ok (.iinc 4 1, 3) := by decide +kernel
theorem dX4_openersIn_50 : decode cX4_openersIn 50 = .ok (.goto (-45), 3) := by decide +kernel
theorem dX4_openersIn_53 : decode cX4_openersIn 53 = .ok (.iload_n 3, 1) := by decide +kernel
theorem dX4_openersIn_54 : decode cX4_openersIn 54 = .ok (.ireturn, 1) := by decide +kernel
theorem dX4_openedFor_0 : decode cX4_openedFor 0 = .ok (.aload_n 0, 1) := by decide +kernel
theorem dX4_openedFor_1 : decode cX4_openedFor 1 = .ok (.aload_n 0, 1) := by decide +kernel
theorem dX4_openedFor_2 : decode cX4_openedFor 2 = .ok (.iload_n 1, 1) := by decide +kernel
theorem dX4_openedFor_3 : decode cX4_openedFor 3 = .ok (.invokevirtual 95, 3) := by decide +kernel
theorem dX4_openedFor_6 : decode cX4_openedFor 6 = .ok (.aload_n 0, 1) := by decide +kernel
theorem dX4_openedFor_7 : decode cX4_openedFor 7 = .ok (.iload_n 1, 1) := by decide +kernel
theorem dX4_openedFor_8 : decode cX4_openedFor 8 = .ok (.invokevirtual 107, 3) := by decide +kernel
theorem dX4_openedFor_11 : decode cX4_openedFor 11 = .ok (.invokevirtual 110, 3) := by decide +kernel
theorem dX4_openedFor_14 : decode cX4_openedFor 14 = .ok (.ireturn, 1) := by decide +kernel
theorem dX4_feltIn_0 : decode cX4_feltIn 0 = .ok (.iconst 0, 1) := by decide +kernel
theorem dX4_feltIn_1 : decode cX4_feltIn 1 = .ok (.istore_n 3, 1) := by decide +kernel
theorem dX4_feltIn_2 : decode cX4_feltIn 2 = .ok (.iconst 0, 1) := by decide +kernel
theorem dX4_feltIn_3 : decode cX4_feltIn 3 = .ok (.istore 4, 2) := by decide +kernel
theorem dX4_feltIn_5 : decode cX4_feltIn 5 = .ok (.iload 4, 2) := by decide +kernel
theorem dX4_feltIn_7 : decode cX4_feltIn 7 = .ok (.aload_n 0, 1) := by decide +kernel
theorem dX4_feltIn_8 : decode cX4_feltIn 8 = .ok (.getfield 24, 3) := by decide +kernel
theorem dX4_feltIn_11 : decode cX4_feltIn 11 = .ok (.getfield 38, 3) := by decide +kernel
theorem dX4_feltIn_14 : decode cX4_feltIn 14 = .ok (.getfield 44, 3) := by decide +kernel
theorem dX4_feltIn_17 : decode cX4_feltIn 17 = .ok (.if_icmp .ge 37, 3) := by decide +kernel
theorem dX4_feltIn_20 : decode cX4_feltIn 20 = .ok (.aload_n 0, 1) := by decide +kernel
theorem dX4_feltIn_21 : decode cX4_feltIn 21 = .ok (.getfield 9, 3) := by decide +kernel
theorem dX4_feltIn_24 : decode cX4_feltIn 24 = .ok (.iload 4, 2) := by decide +kernel
theorem dX4_feltIn_26 : decode cX4_feltIn 26 = .ok (.iaload, 1) := by decide +kernel
theorem dX4_feltIn_27 : decode cX4_feltIn 27 = .ok (.iload_n 1, 1) := by decide +kernel
theorem dX4_feltIn_28 : decode cX4_feltIn 28 = .ok (.if_icmp .ne 20, 3) := by decide +kernel
theorem dX4_feltIn_31 : decode cX4_feltIn 31 = .ok (.aload_n 0, 1) := by decide +kernel
theorem dX4_feltIn_32 : decode cX4_feltIn 32 = .ok (.iload 4, 2) := by decide +kernel
theorem dX4_feltIn_34 : decode cX4_feltIn 34 = .ok (.invokevirtual 101, 3) := by decide +kernel
theorem dX4_feltIn_37 : decode cX4_feltIn 37 = .ok (.iload_n 2, 1) := by decide +kernel
theorem dX4_feltIn_38 : decode cX4_feltIn 38 = .ok (.if_icmp .gt 10, 3) := by decide +kernel
theorem dX4_feltIn_41 : decode cX4_feltIn 41 = .ok (.iload_n 3, 1) := by decide +kernel
theorem dX4_feltIn_42 : decode cX4_feltIn 42 = .ok (.iconst 1, 1) := by decide +kernel
theorem dX4_feltIn_43 : decode cX4_feltIn 43 = .ok (.iload 4, 2) := by decide +kernel
theorem dX4_feltIn_45 : decode cX4_feltIn 45 = .ok (.ishl, 1) := by decide +kernel
theorem dX4_feltIn_46 : decode cX4_feltIn 46 = .ok (.ior, 1) := by decide +kernel
theorem dX4_feltIn_47 : decode cX4_feltIn 47 = .ok (.istore_n 3, 1) := by decide +kernel
theorem dX4_feltIn_48 : decode cX4_feltIn 48 = .ok (.iinc 4 1, 3) := by decide +kernel
theorem dX4_feltIn_51 : decode cX4_feltIn 51 = .ok (.goto (-46), 3) := by decide +kernel
theorem dX4_feltIn_54 : decode cX4_feltIn 54 = .ok (.iload_n 3, 1) := by decide +kernel
theorem dX4_feltIn_55 : decode cX4_feltIn 55 = .ok (.ireturn, 1) := by decide +kernel
theorem dX4_neverShuts_0 : decode cX4_neverShuts 0 = .ok (.aload_n 0, 1) := by decide +kernel
theorem dX4_neverShuts_1 : decode cX4_neverShuts 1 = .ok (.getfield 21, 3) := by decide +kernel
theorem dX4_neverShuts_4 : decode cX4_neverShuts 4 = .ok (.iload_n 1, 1) := by decide +kernel
theorem dX4_neverShuts_5 : decode cX4_neverShuts 5 = .ok (.iaload, 1) := by decide +kernel
theorem dX4_neverShuts_6 : decode cX4_neverShuts 6 = .ok (.bipush 12, 2) := by decide +kernel
theorem dX4_neverShuts_8 : decode cX4_neverShuts 8 = .ok (.if_icmp .lt 7, 3) := by decide +kernel
theorem dX4_neverShuts_11 : decode cX4_neverShuts 11 = .ok (.iconst 1, 1) := by decide +kernel
theorem dX4_neverShuts_12 : decode cX4_neverShuts 12 = .ok (.goto 4, 3) := by decide +kernel
theorem dX4_neverShuts_15 : decode cX4_neverShuts 15 = .ok (.iconst 0, 1) := by decide +kernel
theorem dX4_neverShuts_16 : decode cX4_neverShuts 16 = .ok (.ireturn, 1) := by decide +kernel
set_option maxRecDepth 20000 in
theorem ggX4_umbrellasIn_X4_whereIs : GoodIn wsX4_umbrellasIn wsX4_whereIs := goodIn_r _ [8, 9, 10, 11, 12, 13, 14, 15, 16, 17, 18, 19] rfl (by decide +kernel)
set_option maxRecDepth 20000 in
theorem gX4_umbrellasIn_X4_whereIs : GoodIn wsX4_umbrellasIn (wsV RX4 95 RX4 yX4_whereIs wsX4_whereIs) := goodIn_app (a := [.methodLink RX4 95 yX4_whereIs, .instanceMethod yX4_whereIs, .selects RX4 yX4_whereIs yX4_whereIs, .initialized RX4]) (g_c9 (List.mem_cons_of_mem _ (List.mem_append_left _ (List.mem_append_left _ (List.mem_append_left _ (List.mem_of_getElem? (i := 3) rfl))))) rfl (g_c9 (List.mem_cons_of_mem _ (List.mem_append_left _ (List.mem_append_left _ (List.mem_append_left _ (List.mem_of_getElem? (i := 4) rfl))))) rfl (g_c9 (List.mem_cons_of_mem _ (List.mem_append_left _ (List.mem_append_left _ (List.mem_append_left _ (List.mem_of_getElem? (i := 5) rfl))))) rfl (g_c9 (List.mem_cons_of_mem _ (List.mem_append_left _ (List.mem_append_left _ (List.mem_append_left _ (List.mem_of_getElem? (i := 6) rfl))))) rfl g_n9)))) ggX4_umbrellasIn_X4_whereIs
set_option maxRecDepth 20000 in
theorem ggX4_isAlone_X4_personsIn : GoodIn wsX4_isAlone wsX4_personsIn := goodIn_r _ [6, 7, 8, 9, 1, 10, 11, 12, 13, 14, 15, 16, 17, 18, 19, 20, 21, 22, 23, 24, 25, 26, 27, 28, 29, 30, 31] rfl (by decide +kernel)
set_option maxRecDepth 20000 in
theorem gX4_isAlone_X4_personsIn : GoodIn wsX4_isAlone (wsV RX4 98 RX4 yX4_personsIn wsX4_personsIn) := goodIn_app (a := [.methodLink RX4 98 yX4_personsIn, .instanceMethod yX4_personsIn, .selects RX4 yX4_personsIn yX4_personsIn, .initialized RX4]) (g_c9 (List.mem_cons_of_mem _ (List.mem_append_left _ (List.mem_append_left _ (List.mem_append_left _ (List.mem_of_getElem? (i := 1) rfl))))) rfl (g_c9 (List.mem_cons_of_mem _ (List.mem_append_left _ (List.mem_append_left _ (List.mem_append_left _ (List.mem_of_getElem? (i := 2) rfl))))) rfl (g_c9 (List.mem_cons_of_mem _ (List.mem_append_left _ (List.mem_append_left _ (List.mem_append_left _ (List.mem_of_getElem? (i := 3) rfl))))) rfl (g_c9 (List.mem_cons_of_mem _ (List.mem_append_left _ (List.mem_append_left _ (List.mem_append_left _ (List.mem_of_getElem? (i := 4) rfl))))) rfl g_n9)))) ggX4_isAlone_X4_personsIn
set_option maxRecDepth 20000 in
theorem ggX4_openersFor_X4_soonest : GoodIn wsX4_openersFor wsX4_soonest := goodIn_r _ [6, 7, 8, 9, 10, 11, 12, 13, 14, 15, 16, 17, 18, 5, 19, 20, 39, 40, 41, 42, 43, 44, 45, 46, 47, 48, 49, 50, 51, 52, 53, 54, 55, 56, 57, 58] rfl (by decide +kernel)
set_option maxRecDepth 20000 in
theorem gX4_openersFor_X4_soonest : GoodIn wsX4_openersFor (wsV RX4 101 RX4 yX4_soonest wsX4_soonest) := goodIn_app (a := [.methodLink RX4 101 yX4_soonest, .instanceMethod yX4_soonest, .selects RX4 yX4_soonest yX4_soonest, .initialized RX4]) (have hq0 : ∀ w, w ∈ wsX4_openersFor_r1 → w ∈ wsX4_openersFor := fun _ h9 => (List.mem_cons_of_mem _ (List.mem_append_left _ (List.mem_append_left _ (List.mem_append_left _ (List.mem_append_left _ h9))))); (g_c9 (hq0 _ (List.mem_of_getElem? (i := 1) rfl)) rfl (g_c9 (hq0 _ (List.mem_of_getElem? (i := 2) rfl)) rfl (g_c9 (hq0 _ (List.mem_of_getElem? (i := 3) rfl)) rfl (g_c9 (hq0 _ (List.mem_of_getElem? (i := 4) rfl)) rfl g_n9))))) ggX4_openersFor_X4_soonest
set_option maxRecDepth 20000 in
theorem ggX4_openersFor_X4_openersIn : GoodIn wsX4_openersFor wsX4_openersIn := goodIn_r _ [24, 7, 25, 26, 27, 28, 29, 5, 30, 31, 32, 1, 33, 34, 35, 36, 37, 38, 39, 40, 41, 42, 43, 44, 45, 46, 47, 48, 49, 50, 51, 52, 53, 54, 55, 56, 57, 58, 59, 60] rfl (by decide +kernel)
set_option maxRecDepth 20000 in
theorem gX4_openersFor_X4_openersIn : GoodIn wsX4_openersFor (wsV RX4 104 RX4 yX4_openersIn wsX4_openersIn) := goodIn_app (a := [.methodLink RX4 104 yX4_openersIn, .instanceMethod yX4_openersIn, .selects RX4 yX4_openersIn yX4_openersIn, .initialized RX4]) (have hq0 : ∀ w, w ∈ wsX4_openersFor_r1 → w ∈ wsX4_openersFor := fun _ h9 => (List.mem_cons_of_mem _ (List.mem_append_left _ (List.mem_append_left _ (List.mem_append_left _ (List.mem_append_left _ h9))))); (g_c9 (hq0 _ (List.mem_of_getElem? (i := 20) rfl)) rfl (g_c9 (hq0 _ (List.mem_of_getElem? (i := 21) rfl)) rfl (g_c9 (hq0 _ (List.mem_of_getElem? (i := 22) rfl)) rfl (g_c9 (hq0 _ (List.mem_of_getElem? (i := 4) rfl)) rfl g_n9))))) ggX4_openersFor_X4_openersIn
set_option maxRecDepth 20000 in
theorem ggX4_openersIn_X4_whereIs : GoodIn wsX4_openersIn wsX4_whereIs := goodIn_r _ [8, 9, 10, 11, 18, 19, 20, 21, 22, 23, 24, 25] rfl (by decide +kernel)
set_option maxRecDepth 20000 in
theorem gX4_openersIn_X4_whereIs : GoodIn wsX4_openersIn (wsV RX4 95 RX4 yX4_whereIs wsX4_whereIs) := goodIn_app (a := [.methodLink RX4 95 yX4_whereIs, .instanceMethod yX4_whereIs, .selects RX4 yX4_whereIs yX4_whereIs, .initialized RX4]) (g_c9 (List.mem_cons_of_mem _ (List.mem_append_left _ (List.mem_append_left _ (List.mem_append_left _ (List.mem_of_getElem? (i := 3) rfl))))) rfl (g_c9 (List.mem_cons_of_mem _ (List.mem_append_left _ (List.mem_append_left _ (List.mem_append_left _ (List.mem_of_getElem? (i := 4) rfl))))) rfl (g_c9 (List.mem_cons_of_mem _ (List.mem_append_left _ (List.mem_append_left _ (List.mem_append_left _ (List.mem_of_getElem? (i := 5) rfl))))) rfl (g_c9 (List.mem_cons_of_mem _ (List.mem_append_left _ (List.mem_append_left _ (List.mem_append_left _ (List.mem_of_getElem? (i := 6) rfl))))) rfl g_n9)))) ggX4_openersIn_X4_whereIs
set_option maxRecDepth 20000 in
theorem ggX4_openersIn_X4_reach : GoodIn wsX4_openersIn wsX4_reach := goodIn_r _ [15, 16, 1, 17, 18, 19, 20, 21, 22, 23, 24, 25, 26, 27, 28, 29, 30, 31, 32, 33, 34, 35, 36, 37] rfl (by decide +kernel)
set_option maxRecDepth 20000 in
theorem gX4_openersIn_X4_reach : GoodIn wsX4_openersIn (wsV RX4 107 RX4 yX4_reach wsX4_reach) := goodIn_app (a := [.methodLink RX4 107 yX4_reach, .instanceMethod yX4_reach, .selects RX4 yX4_reach yX4_reach, .initialized RX4]) (g_c9 (List.mem_cons_of_mem _ (List.mem_append_left _ (List.mem_append_left _ (List.mem_append_left _ (List.mem_of_getElem? (i := 11) rfl))))) rfl (g_c9 (List.mem_cons_of_mem _ (List.mem_append_left _ (List.mem_append_left _ (List.mem_append_left _ (List.mem_of_getElem? (i := 12) rfl))))) rfl (g_c9 (List.mem_cons_of_mem _ (List.mem_append_left _ (List.mem_append_left _ (List.mem_append_left _ (List.mem_of_getElem? (i := 13) rfl))))) rfl (g_c9 (List.mem_cons_of_mem _ (List.mem_append_left _ (List.mem_append_left _ (List.mem_append_left _ (List.mem_of_getElem? (i := 6) rfl))))) rfl g_n9)))) ggX4_openersIn_X4_reach
set_option maxRecDepth 20000 in
theorem ggX4_openedFor_X4_whereIs : GoodIn wsX4_openedFor wsX4_whereIs := goodIn_r _ [5, 6, 7, 8, 39, 40, 41, 42, 43, 44, 45, 46] rfl (by decide +kernel)
set_option maxRecDepth 20000 in
theorem gX4_openedFor_X4_whereIs : GoodIn wsX4_openedFor (wsV RX4 95 RX4 yX4_whereIs wsX4_whereIs) := goodIn_app (a := [.methodLink RX4 95 yX4_whereIs, .instanceMethod yX4_whereIs, .selects RX4 yX4_whereIs yX4_whereIs, .initialized RX4]) (have hq0 : ∀ w, w ∈ wsX4_openedFor_r1 → w ∈ wsX4_openedFor := fun _ h9 => (List.mem_cons_of_mem _ (List.mem_append_left _ (List.mem_append_left _ (List.mem_append_left _ (List.mem_append_left _ h9))))); (g_c9 (hq0 _ (List.mem_of_getElem? (i := 0) rfl)) rfl (g_c9 (hq0 _ (List.mem_of_getElem? (i := 1) rfl)) rfl (g_c9 (hq0 _ (List.mem_of_getElem? (i := 2) rfl)) rfl (g_c9 (hq0 _ (List.mem_of_getElem? (i := 3) rfl)) rfl g_n9))))) ggX4_openedFor_X4_whereIs
set_option maxRecDepth 20000 in
theorem ggX4_openedFor_X4_reach : GoodIn wsX4_openedFor wsX4_reach := goodIn_r _ [12, 13, 14, 15, 39, 40, 41, 42, 43, 44, 45, 46, 47, 48, 49, 50, 51, 52, 53, 54, 55, 56, 57, 58] rfl (by decide +kernel)
set_option maxRecDepth 20000 in
theorem gX4_openedFor_X4_reach : GoodIn wsX4_openedFor (wsV RX4 107 RX4 yX4_reach wsX4_reach) := goodIn_app (a := [.methodLink RX4 107 yX4_reach, .instanceMethod yX4_reach, .selects RX4 yX4_reach yX4_reach, .initialized RX4]) (have hq0 : ∀ w, w ∈ wsX4_openedFor_r1 → w ∈ wsX4_openedFor := fun _ h9 => (List.mem_cons_of_mem _ (List.mem_append_left _ (List.mem_append_left _ (List.mem_append_left _ (List.mem_append_left _ h9))))); (g_c9 (hq0 _ (List.mem_of_getElem? (i := 8) rfl)) rfl (g_c9 (hq0 _ (List.mem_of_getElem? (i := 9) rfl)) rfl (g_c9 (hq0 _ (List.mem_of_getElem? (i := 10) rfl)) rfl (g_c9 (hq0 _ (List.mem_of_getElem? (i := 3) rfl)) rfl g_n9))))) ggX4_openedFor_X4_reach
set_option maxRecDepth 20000 in
theorem ggX4_openedFor_X4_feltIn : GoodIn wsX4_openedFor wsX4_feltIn := goodIn_r _ [19, 14, 20, 21, 8, 22, 23, 24, 4, 25, 26, 27, 28, 29, 30, 31, 32, 33, 34, 35, 36, 37, 38, 39, 40, 41, 42, 43, 44, 45, 46, 47, 48, 49, 50, 51, 52, 53, 54, 55, 56, 57, 58, 59, 60] rfl (by decide +kernel)
set_option maxRecDepth 20000 in
theorem gX4_openedFor_X4_feltIn : GoodIn wsX4_openedFor (wsV RX4 110 RX4 yX4_feltIn wsX4_feltIn) := goodIn_app (a := [.methodLink RX4 110 yX4_feltIn, .instanceMethod yX4_feltIn, .selects RX4 yX4_feltIn yX4_feltIn, .initialized RX4]) (have hq0 : ∀ w, w ∈ wsX4_openedFor_r1 → w ∈ wsX4_openedFor := fun _ h9 => (List.mem_cons_of_mem _ (List.mem_append_left _ (List.mem_append_left _ (List.mem_append_left _ (List.mem_append_left _ h9))))); (g_c9 (hq0 _ (List.mem_of_getElem? (i := 15) rfl)) rfl (g_c9 (hq0 _ (List.mem_of_getElem? (i := 16) rfl)) rfl (g_c9 (hq0 _ (List.mem_of_getElem? (i := 17) rfl)) rfl (g_c9 (hq0 _ (List.mem_of_getElem? (i := 3) rfl)) rfl g_n9))))) ggX4_openedFor_X4_feltIn
set_option maxRecDepth 20000 in
theorem ggX4_feltIn_X4_soonest : GoodIn wsX4_feltIn wsX4_soonest := goodIn_r _ [9, 1, 10, 11, 12, 13, 14, 15, 16, 17, 18, 19, 20, 8, 21, 22, 23, 24, 25, 26, 27, 28, 29, 30, 31, 32, 33, 34, 35, 36, 37, 38, 39, 40, 41, 42] rfl (by decide +kernel)
set_option maxRecDepth 20000 in
theorem gX4_feltIn_X4_soonest : GoodIn wsX4_feltIn (wsV RX4 101 RX4 yX4_soonest wsX4_soonest) := goodIn_app (a := [.methodLink RX4 101 yX4_soonest, .instanceMethod yX4_soonest, .selects RX4 yX4_soonest yX4_soonest, .initialized RX4]) (g_c9 (List.mem_cons_of_mem _ (List.mem_append_left _ (List.mem_append_left _ (List.mem_append_left _ (List.mem_of_getElem? (i := 4) rfl))))) rfl (g_c9 (List.mem_cons_of_mem _ (List.mem_append_left _ (List.mem_append_left _ (List.mem_append_left _ (List.mem_of_getElem? (i := 5) rfl))))) rfl (g_c9 (List.mem_cons_of_mem _ (List.mem_append_left _ (List.mem_append_left _ (List.mem_append_left _ (List.mem_of_getElem? (i := 6) rfl))))) rfl (g_c9 (List.mem_cons_of_mem _ (List.mem_append_left _ (List.mem_append_left _ (List.mem_append_left _ (List.mem_of_getElem? (i := 7) rfl))))) rfl g_n9)))) ggX4_feltIn_X4_soonest
set_option maxHeartbeats 8000000 in
set_option maxRecDepth 100000 in
theorem w_Scene_whereIs (l : Launch) (D : va_G) (ad : Nat → Nat) (sc : Nat) (scd : Int32) (sch : Int32) (scs : Int32) (scp : Nat) (scpt : ClassId) (scpf : Nat → Int32) (scw : Nat) (scwt : ClassId) (scwf : Nat → Int32) (scc : Nat) (scct : ClassId) (sccf : Nat → Int32) (scf : Nat) (scft : ClassId) (scff : Nat → Int32) (tw : Nat) (twe : Int32) (twm : Int32) (twr : Int32) (twl : Nat) (twln : Int32) (twlc : Nat) (twlct : ClassId) (twlcf : Nat → Int64) (twp : Nat) (twpn : Int32) (twpc : Nat) (twpct : ClassId) (twpcf : Nat → Int64) (twu : Nat) (twun : Int32) (twuc : Nat) (twuct : ClassId) (twucf : Nat → Int64) (twh : Nat) (twht : ClassId) (twhf : Nat → Int32) (tws : Nat) (twst : ClassId) (twsf : Nat → Int32) (twg : Nat) (twgt : ClassId) (twgf : Nat → Int32) (two : Nat) (twot : ClassId) (twof : Nat → Int32) (twd : Nat) (twdt : ClassId) (twdf : Nat → Int32) (twq : Nat) (twqt : ClassId) (twqf : Nat → Int32) (i0 : Int32) (hscpf : z_al 0 4 scpf) (hscwf : z_al 0 4 scwf) (hsccf : z_al (-1) 6 sccf) (hscff : z_al 0 12 scff) (htwm : z_in 0 14 twm) (htwr : z_in 0 5 twr) (htwln : z_in 0 5 twln) (htwpn : z_in 0 7 twpn) (htwun : z_in 0 6 twun) (htwhf : z_al 0 4 twhf) (htwsf : z_al 0 4 twsf) (htwgf : z_al 0 12 twgf) (htwof : z_al 0 6 twof) (htwdf : z_al 0 199 twdf) (htwqf : z_al 0 20 twqf) (hi0 : z_in 0 5 i0) : z_Mi l yX4_whereIs wsX4_whereIs { frames := 0, cells := 0, slots := 0, locals := 0 } D ad [.ref sc, .int i0] [(sc, .inr (4, [.ref tw, .int scd, .int sch, .int scs, .ref scp, .ref scw, .ref scc, .ref scf])), (scp, .inl (scpt, 7, .inl scpf)), (scw, .inl (scwt, 6, .inl scwf)), (scc, .inl (scct, 6, .inl sccf)), (scf, .inl (scft, 6, .inl scff)), (tw, .inr (8, [.ref twl, .ref twp, .ref twu, .int twe, .ref twh, .ref tws, .ref twg, .int twm, .ref two, .ref twd, .ref twq, .int twr])), (twl, .inr (2, [.ref twlc, .int twln])), (twlc, .inl (twlct, 5, .inr (.inl twlcf))), (twp, .inr (2, [.ref twpc, .int twpn])), (twpc, .inl (twpct, 7, .inr (.inl twpcf))), (twu, .inr (2, [.ref twuc, .int twun])), (twuc, .inl (twuct, 6, .inr (.inl twucf))), (twh, .inl (twht, 7, .inl twhf)), (tws, .inl (twst, 6, .inl twsf)), (twg, .inl (twgt, 6, .inl twgf)), (two, .inl (twot, 14, .inl twof)), (twd, .inl (twdt, 14, .inl twdf)), (twq, .inl (twqt, 14, .inl twqf))] [(scpt, .int), (scwt, .int), (scct, .int), (scft, .int), (twlct, .long), (twpct, .long), (twuct, .long), (twht, .int), (twst, .int), (twgt, .int), (twot, .int), (twdt, .int), (twqt, .int)] 0 0 (fun r9 u9 => z_in 0 4 r9 ∧ u9 = ([(sc, .inr (4, [.ref tw, .int scd, .int sch, .int scs, .ref scp, .ref scw, .ref scc, .ref scf])), (scp, .inl (scpt, 7, .inl scpf)), (scw, .inl (scwt, 6, .inl scwf)), (scc, .inl (scct, 6, .inl sccf)), (scf, .inl (scft, 6, .inl scff)), (tw, .inr (8, [.ref twl, .ref twp, .ref twu, .int twe, .ref twh, .ref tws, .ref twg, .int twm, .ref two, .ref twd, .ref twq, .int twr])), (twl, .inr (2, [.ref twlc, .int twln])), (twlc, .inl (twlct, 5, .inr (.inl twlcf))), (twp, .inr (2, [.ref twpc, .int twpn])), (twpc, .inl (twpct, 7, .inr (.inl twpcf))), (twu, .inr (2, [.ref twuc, .int twun])), (twuc, .inl (twuct, 6, .inr (.inl twucf))), (twh, .inl (twht, 7, .inl twhf)), (tws, .inl (twst, 6, .inl twsf)), (twg, .inl (twgt, 6, .inl twgf)), (two, .inl (twot, 14, .inl twof)), (twd, .inl (twdt, 14, .inl twdf)), (twq, .inl (twqt, 14, .inl twqf))], [])) := by
  refine z_ofI (cc := cX4_whereIs) (maxL := 3) (rt := .int) (by decide) rfl (Nat.le_of_ble_eq_true rfl) ?_
  intro p e s m below meth c Q A ls hx hb hml hown hts hin hK hP hD hA hE hO hS hl hret
  have hown : s.vm.findClass RX4 = some m.cls := hown
  have hiX4 : ∀ w ∈ wsX40, w ∈ wsX4_whereIs := fun _ h9 => List.mem_cons_of_mem _ (List.mem_append_right _ h9)
  have hl : lv_has ls 3 [(0, .ref sc), (1, .int i0)] := hl
  refine lv_aload_n hx hb dX4_whereIs_0 rfl (lv_at hl 0 rfl) ?_
  refine va_get (D := D) (ci := 4) (v := .ref scc) (C := RX4) (T := TX4) (N := 8) hx hb hts hiX4 hown hK hP 0 rfl rfl 6 (by decide) (hts _ (List.mem_of_getElem? (i := 1) rfl)) (fun _ h9 => h9) rfl dX4_whereIs_1 ?_
  refine lv_iload_n hx hb dX4_whereIs_4 rfl (lv_at hl 1 rfl) ?_
  refine va_iald hx hb hK hP 3 2 rfl rfl (z_vp hi0 rfl) dX4_whereIs_5 ?_
  refine lv_topi (fun y_1 ey_1 => ?_)
  have h_2 : z_in (-1) 6 y_1 := by rw [ey_1]; exact hsccf _
  refine lv_istore_n (lv' := [(2, .int y_1), (0, .ref sc), (1, .int i0)]) hx hb dX4_whereIs_6 rfl hl (by decide) rfl (fun ls hl => ?_)
  refine lv_iload_n hx hb dX4_whereIs_7 rfl (lv_at hl 0 rfl) ?_
  refine lv_iconst (v := (-1)) hx hb dX4_whereIs_8 (by decide) ?_
  refine lv_icmp_ne (tgt := 21) hx hb dX4_whereIs_9 (by decide) (fun c_3 => ?_) (fun c_3 => ?_)
  · skip
    have h_4 : z_in 0 6 y_1 := z_neLo c_3 h_2 (z_lit (x := (-1)) (a := (-1)) (b := (-1)) rfl) rfl
    refine lv_aload_n hx hb dX4_whereIs_21 rfl (lv_at hl 1 rfl) ?_
    refine va_get (D := D) (ci := 4) (v := .ref scp) (C := RX4) (T := TX4) (N := 8) hx hb hts hiX4 hown hK hP 0 rfl rfl 4 (by decide) (hts _ (List.mem_of_getElem? (i := 3) rfl)) (fun _ h9 => h9) rfl dX4_whereIs_22 ?_
    refine lv_iload_n hx hb dX4_whereIs_25 rfl (lv_at hl 0 rfl) ?_
    refine va_iald hx hb hK hP 1 0 rfl rfl (z_vp h_4 rfl) dX4_whereIs_26 ?_
    refine lv_topi (fun y_5 ey_5 => ?_)
    have h_6 : z_in 0 4 y_5 := by rw [ey_5]; exact hscpf _
    exact hret y_5 ([(sc, .inr (4, [.ref tw, .int scd, .int sch, .int scs, .ref scp, .ref scw, .ref scc, .ref scf])), (scp, .inl (scpt, 7, .inl scpf)), (scw, .inl (scwt, 6, .inl scwf)), (scc, .inl (scct, 6, .inl sccf)), (scf, .inl (scft, 6, .inl scff)), (tw, .inr (8, [.ref twl, .ref twp, .ref twu, .int twe, .ref twh, .ref tws, .ref twg, .int twm, .ref two, .ref twd, .ref twq, .int twr])), (twl, .inr (2, [.ref twlc, .int twln])), (twlc, .inl (twlct, 5, .inr (.inl twlcf))), (twp, .inr (2, [.ref twpc, .int twpn])), (twpc, .inl (twpct, 7, .inr (.inl twpcf))), (twu, .inr (2, [.ref twuc, .int twun])), (twuc, .inl (twuct, 6, .inr (.inl twucf))), (twh, .inl (twht, 7, .inl twhf)), (tws, .inl (twst, 6, .inl twsf)), (twg, .inl (twgt, 6, .inl twgf)), (two, .inl (twot, 14, .inl twof)), (twd, .inl (twdt, 14, .inl twdf)), (twq, .inl (twqt, 14, .inl twqf))], []) _ _ _ _ dX4_whereIs_27 rfl ⟨h_6, rfl⟩ hP (hK.sub [] rfl) hD hS
  · skip
    have h_7 : z_in (-1) (-1) y_1 := z_leL (Int32.le_of_eq c_3) h_2 (z_lit (x := (-1)) (a := (-1)) (b := (-1)) rfl) rfl
    refine lv_aload_n hx hb dX4_whereIs_12 rfl (lv_at hl 1 rfl) ?_
    refine va_get (D := D) (ci := 4) (v := .ref scw) (C := RX4) (T := TX4) (N := 8) hx hb hts hiX4 hown hK hP 0 rfl rfl 5 (by decide) (hts _ (List.mem_of_getElem? (i := 2) rfl)) (fun _ h9 => h9) rfl dX4_whereIs_13 ?_
    refine lv_iload_n hx hb dX4_whereIs_16 rfl (lv_at hl 2 rfl) ?_
    refine va_iald hx hb hK hP 2 1 rfl rfl (z_vp hi0 rfl) dX4_whereIs_17 ?_
    refine lv_topi (fun y_8 ey_8 => ?_)
    have h_9 : z_in 0 4 y_8 := by rw [ey_8]; exact hscwf _
    refine lv_goto (tgt := 27) hx hb dX4_whereIs_18 (by decide) ?_
    exact hret y_8 ([(sc, .inr (4, [.ref tw, .int scd, .int sch, .int scs, .ref scp, .ref scw, .ref scc, .ref scf])), (scp, .inl (scpt, 7, .inl scpf)), (scw, .inl (scwt, 6, .inl scwf)), (scc, .inl (scct, 6, .inl sccf)), (scf, .inl (scft, 6, .inl scff)), (tw, .inr (8, [.ref twl, .ref twp, .ref twu, .int twe, .ref twh, .ref tws, .ref twg, .int twm, .ref two, .ref twd, .ref twq, .int twr])), (twl, .inr (2, [.ref twlc, .int twln])), (twlc, .inl (twlct, 5, .inr (.inl twlcf))), (twp, .inr (2, [.ref twpc, .int twpn])), (twpc, .inl (twpct, 7, .inr (.inl twpcf))), (twu, .inr (2, [.ref twuc, .int twun])), (twuc, .inl (twuct, 6, .inr (.inl twucf))), (twh, .inl (twht, 7, .inl twhf)), (tws, .inl (twst, 6, .inl twsf)), (twg, .inl (twgt, 6, .inl twgf)), (two, .inl (twot, 14, .inl twof)), (twd, .inl (twdt, 14, .inl twdf)), (twq, .inl (twqt, 14, .inl twqf))], []) _ _ _ _ dX4_whereIs_27 rfl ⟨h_9, rfl⟩ hP (hK.sub [] rfl) hD hS

set_option maxHeartbeats 8000000 in
set_option maxRecDepth 100000 in
theorem w_Scene_reach (l : Launch) (D : va_G) (ad : Nat → Nat) (sc : Nat) (scd : Int32) (sch : Int32) (scs : Int32) (scp : Nat) (scpt : ClassId) (scpf : Nat → Int32) (scw : Nat) (scwt : ClassId) (scwf : Nat → Int32) (scc : Nat) (scct : ClassId) (sccf : Nat → Int32) (scf : Nat) (scft : ClassId) (scff : Nat → Int32) (tw : Nat) (twe : Int32) (twm : Int32) (twr : Int32) (twl : Nat) (twln : Int32) (twlc : Nat) (twlct : ClassId) (twlcf : Nat → Int64) (twp : Nat) (twpn : Int32) (twpc : Nat) (twpct : ClassId) (twpcf : Nat → Int64) (twu : Nat) (twun : Int32) (twuc : Nat) (twuct : ClassId) (twucf : Nat → Int64) (twh : Nat) (twht : ClassId) (twhf : Nat → Int32) (tws : Nat) (twst : ClassId) (twsf : Nat → Int32) (twg : Nat) (twgt : ClassId) (twgf : Nat → Int32) (two : Nat) (twot : ClassId) (twof : Nat → Int32) (twd : Nat) (twdt : ClassId) (twdf : Nat → Int32) (twq : Nat) (twqt : ClassId) (twqf : Nat → Int32) (i0 : Int32) (hscpf : z_al 0 4 scpf) (hscwf : z_al 0 4 scwf) (hsccf : z_al (-1) 6 sccf) (hscff : z_al 0 12 scff) (htwm : z_in 0 14 twm) (htwr : z_in 0 5 twr) (htwln : z_in 0 5 twln) (htwpn : z_in 0 7 twpn) (htwun : z_in 0 6 twun) (htwhf : z_al 0 4 twhf) (htwsf : z_al 0 4 twsf) (htwgf : z_al 0 12 twgf) (htwof : z_al 0 6 twof) (htwdf : z_al 0 199 twdf) (htwqf : z_al 0 20 twqf) (hi0 : z_in 0 5 i0) : z_Mi l yX4_reach wsX4_reach { frames := 0, cells := 0, slots := 0, locals := 0 } D ad [.ref sc, .int i0] [(sc, .inr (4, [.ref tw, .int scd, .int sch, .int scs, .ref scp, .ref scw, .ref scc, .ref scf])), (scp, .inl (scpt, 7, .inl scpf)), (scw, .inl (scwt, 6, .inl scwf)), (scc, .inl (scct, 6, .inl sccf)), (scf, .inl (scft, 6, .inl scff)), (tw, .inr (8, [.ref twl, .ref twp, .ref twu, .int twe, .ref twh, .ref tws, .ref twg, .int twm, .ref two, .ref twd, .ref twq, .int twr])), (twl, .inr (2, [.ref twlc, .int twln])), (twlc, .inl (twlct, 5, .inr (.inl twlcf))), (twp, .inr (2, [.ref twpc, .int twpn])), (twpc, .inl (twpct, 7, .inr (.inl twpcf))), (twu, .inr (2, [.ref twuc, .int twun])), (twuc, .inl (twuct, 6, .inr (.inl twucf))), (twh, .inl (twht, 7, .inl twhf)), (tws, .inl (twst, 6, .inl twsf)), (twg, .inl (twgt, 6, .inl twgf)), (two, .inl (twot, 14, .inl twof)), (twd, .inl (twdt, 14, .inl twdf)), (twq, .inl (twqt, 14, .inl twqf))] [(scpt, .int), (scwt, .int), (scct, .int), (scft, .int), (twlct, .long), (twpct, .long), (twuct, .long), (twht, .int), (twst, .int), (twgt, .int), (twot, .int), (twdt, .int), (twqt, .int)] 0 0 (fun r9 u9 => z_in 0 60 r9 ∧ u9 = ([(sc, .inr (4, [.ref tw, .int scd, .int sch, .int scs, .ref scp, .ref scw, .ref scc, .ref scf])), (scp, .inl (scpt, 7, .inl scpf)), (scw, .inl (scwt, 6, .inl scwf)), (scc, .inl (scct, 6, .inl sccf)), (scf, .inl (scft, 6, .inl scff)), (tw, .inr (8, [.ref twl, .ref twp, .ref twu, .int twe, .ref twh, .ref tws, .ref twg, .int twm, .ref two, .ref twd, .ref twq, .int twr])), (twl, .inr (2, [.ref twlc, .int twln])), (twlc, .inl (twlct, 5, .inr (.inl twlcf))), (twp, .inr (2, [.ref twpc, .int twpn])), (twpc, .inl (twpct, 7, .inr (.inl twpcf))), (twu, .inr (2, [.ref twuc, .int twun])), (twuc, .inl (twuct, 6, .inr (.inl twucf))), (twh, .inl (twht, 7, .inl twhf)), (tws, .inl (twst, 6, .inl twsf)), (twg, .inl (twgt, 6, .inl twgf)), (two, .inl (twot, 14, .inl twof)), (twd, .inl (twdt, 14, .inl twdf)), (twq, .inl (twqt, 14, .inl twqf))], [])) := by
  refine z_ofI (cc := cX4_reach) (maxL := 2) (rt := .int) (by decide) rfl (Nat.le_of_ble_eq_true rfl) ?_
  intro p e s m below meth c Q A ls hx hb hml hown hts hin hK hP hD hA hE hO hS hl hret
  have hown : s.vm.findClass RX4 = some m.cls := hown
  have hiX4 : ∀ w ∈ wsX40, w ∈ wsX4_reach := fun _ h9 => List.mem_cons_of_mem _ (List.mem_append_left _ (List.mem_append_right _ h9))
  have hiX8 : ∀ w ∈ wsX80, w ∈ wsX4_reach := fun _ h9 => List.mem_cons_of_mem _ (List.mem_append_right _ h9)
  have hl : lv_has ls 2 [(0, .ref sc), (1, .int i0)] := hl
  refine lv_aload_n hx hb dX4_reach_0 rfl (lv_at hl 0 rfl) ?_
  refine va_get (D := D) (ci := 4) (v := .ref scf) (C := RX4) (T := TX4) (N := 8) hx hb hts hiX4 hown hK hP 0 rfl rfl 7 (by decide) (hts _ (List.mem_of_getElem? (i := 1) rfl)) (fun _ h9 => h9) rfl dX4_reach_1 ?_
  refine lv_iload_n hx hb dX4_reach_4 rfl (lv_at hl 1 rfl) ?_
  refine va_iald hx hb hK hP 4 3 rfl rfl (z_vp hi0 rfl) dX4_reach_5 ?_
  refine lv_topi (fun y_1 ey_1 => ?_)
  have h_2 : z_in 0 12 y_1 := by rw [ey_1]; exact hscff _
  refine lv_aload_n hx hb dX4_reach_6 rfl (lv_at hl 0 rfl) ?_
  refine va_get (D := D) (ci := 4) (v := .ref tw) (C := RX4) (T := TX4) (N := 8) hx hb hts hiX4 hown hK hP 0 rfl rfl 0 (by decide) (hts _ (List.mem_of_getElem? (i := 2) rfl)) (fun _ h9 => h9) rfl dX4_reach_7 ?_
  refine va_get (D := D) (ci := 8) (v := .int twr) (C := RX8) (T := TX8) (N := 12) hx hb hts hiX8 hown hK hP 5 rfl rfl 11 (by decide) (hts _ (List.mem_of_getElem? (i := 3) rfl)) (fun _ h9 => h9) rfl dX4_reach_10 ?_
  refine lv_imul hx hb dX4_reach_13 ?_
  refine lv_topi (fun y_3 ey_3 => ?_)
  have h_4 : z_in 0 60 y_3 := by rw [ey_3]; exact z_mul h_2 htwr rfl rfl
  exact hret y_3 ([(sc, .inr (4, [.ref tw, .int scd, .int sch, .int scs, .ref scp, .ref scw, .ref scc, .ref scf])), (scp, .inl (scpt, 7, .inl scpf)), (scw, .inl (scwt, 6, .inl scwf)), (scc, .inl (scct, 6, .inl sccf)), (scf, .inl (scft, 6, .inl scff)), (tw, .inr (8, [.ref twl, .ref twp, .ref twu, .int twe, .ref twh, .ref tws, .ref twg, .int twm, .ref two, .ref twd, .ref twq, .int twr])), (twl, .inr (2, [.ref twlc, .int twln])), (twlc, .inl (twlct, 5, .inr (.inl twlcf))), (twp, .inr (2, [.ref twpc, .int twpn])), (twpc, .inl (twpct, 7, .inr (.inl twpcf))), (twu, .inr (2, [.ref twuc, .int twun])), (twuc, .inl (twuct, 6, .inr (.inl twucf))), (twh, .inl (twht, 7, .inl twhf)), (tws, .inl (twst, 6, .inl twsf)), (twg, .inl (twgt, 6, .inl twgf)), (two, .inl (twot, 14, .inl twof)), (twd, .inl (twdt, 14, .inl twdf)), (twq, .inl (twqt, 14, .inl twqf))], []) _ _ _ _ dX4_reach_14 rfl ⟨h_4, rfl⟩ hP (hK.sub [] rfl) hD hS

set_option maxHeartbeats 8000000 in
set_option maxRecDepth 100000 in
theorem w_Scene_personsIn (l : Launch) (D : va_G) (ad : Nat → Nat) (sc : Nat) (scd : Int32) (sch : Int32) (scs : Int32) (scp : Nat) (scpt : ClassId) (scpf : Nat → Int32) (scw : Nat) (scwt : ClassId) (scwf : Nat → Int32) (scc : Nat) (scct : ClassId) (sccf : Nat → Int32) (scf : Nat) (scft : ClassId) (scff : Nat → Int32) (tw : Nat) (twe : Int32) (twm : Int32) (twr : Int32) (twl : Nat) (twln : Int32) (twlc : Nat) (twlct : ClassId) (twlcf : Nat → Int64) (twp : Nat) (twpn : Int32) (twpc : Nat) (twpct : ClassId) (twpcf : Nat → Int64) (twu : Nat) (twun : Int32) (twuc : Nat) (twuct : ClassId) (twucf : Nat → Int64) (twh : Nat) (twht : ClassId) (twhf : Nat → Int32) (tws : Nat) (twst : ClassId) (twsf : Nat → Int32) (twg : Nat) (twgt : ClassId) (twgf : Nat → Int32) (two : Nat) (twot : ClassId) (twof : Nat → Int32) (twd : Nat) (twdt : ClassId) (twdf : Nat → Int32) (twq : Nat) (twqt : ClassId) (twqf : Nat → Int32) (i0 : Int32) (hscpf : z_al 0 4 scpf) (hscwf : z_al 0 4 scwf) (hsccf : z_al (-1) 6 sccf) (hscff : z_al 0 12 scff) (htwm : z_in 0 14 twm) (htwr : z_in 0 5 twr) (htwln : z_in 0 5 twln) (htwpn : z_in 0 7 twpn) (htwun : z_in 0 6 twun) (htwhf : z_al 0 4 twhf) (htwsf : z_al 0 4 twsf) (htwgf : z_al 0 12 twgf) (htwof : z_al 0 6 twof) (htwdf : z_al 0 199 twdf) (htwqf : z_al 0 20 twqf) : z_Mi l yX4_personsIn wsX4_personsIn { frames := 0, cells := 0, slots := 0, locals := 0 } D ad [.ref sc, .int i0] [(sc, .inr (4, [.ref tw, .int scd, .int sch, .int scs, .ref scp, .ref scw, .ref scc, .ref scf])), (scp, .inl (scpt, 7, .inl scpf)), (scw, .inl (scwt, 6, .inl scwf)), (scc, .inl (scct, 6, .inl sccf)), (scf, .inl (scft, 6, .inl scff)), (tw, .inr (8, [.ref twl, .ref twp, .ref twu, .int twe, .ref twh, .ref tws, .ref twg, .int twm, .ref two, .ref twd, .ref twq, .int twr])), (twl, .inr (2, [.ref twlc, .int twln])), (twlc, .inl (twlct, 5, .inr (.inl twlcf))), (twp, .inr (2, [.ref twpc, .int twpn])), (twpc, .inl (twpct, 7, .inr (.inl twpcf))), (twu, .inr (2, [.ref twuc, .int twun])), (twuc, .inl (twuct, 6, .inr (.inl twucf))), (twh, .inl (twht, 7, .inl twhf)), (tws, .inl (twst, 6, .inl twsf)), (twg, .inl (twgt, 6, .inl twgf)), (two, .inl (twot, 14, .inl twof)), (twd, .inl (twdt, 14, .inl twdf)), (twq, .inl (twqt, 14, .inl twqf))] [(scpt, .int), (scwt, .int), (scct, .int), (scft, .int), (twlct, .long), (twpct, .long), (twuct, .long), (twht, .int), (twst, .int), (twgt, .int), (twot, .int), (twdt, .int), (twqt, .int)] 0 0 (fun r9 u9 => z_in 0 127 r9 ∧ u9 = ([(sc, .inr (4, [.ref tw, .int scd, .int sch, .int scs, .ref scp, .ref scw, .ref scc, .ref scf])), (scp, .inl (scpt, 7, .inl scpf)), (scw, .inl (scwt, 6, .inl scwf)), (scc, .inl (scct, 6, .inl sccf)), (scf, .inl (scft, 6, .inl scff)), (tw, .inr (8, [.ref twl, .ref twp, .ref twu, .int twe, .ref twh, .ref tws, .ref twg, .int twm, .ref two, .ref twd, .ref twq, .int twr])), (twl, .inr (2, [.ref twlc, .int twln])), (twlc, .inl (twlct, 5, .inr (.inl twlcf))), (twp, .inr (2, [.ref twpc, .int twpn])), (twpc, .inl (twpct, 7, .inr (.inl twpcf))), (twu, .inr (2, [.ref twuc, .int twun])), (twuc, .inl (twuct, 6, .inr (.inl twucf))), (twh, .inl (twht, 7, .inl twhf)), (tws, .inl (twst, 6, .inl twsf)), (twg, .inl (twgt, 6, .inl twgf)), (two, .inl (twot, 14, .inl twof)), (twd, .inl (twdt, 14, .inl twdf)), (twq, .inl (twqt, 14, .inl twqf))], [])) := by
  refine z_ofI (cc := cX4_personsIn) (maxL := 4) (rt := .int) (by decide) rfl (Nat.le_of_ble_eq_true rfl) ?_
  intro p e s m below meth c Q A ls hx hb hml hown hts hin hK hP hD hA hE hO hS hl hret
  have hown : s.vm.findClass RX4 = some m.cls := hown
  have hiX4 : ∀ w ∈ wsX40, w ∈ wsX4_personsIn := fun _ h9 => List.mem_cons_of_mem _ (List.mem_append_left _ (List.mem_append_left _ (List.mem_append_right _ h9)))
  have hiX8 : ∀ w ∈ wsX80, w ∈ wsX4_personsIn := fun _ h9 => List.mem_cons_of_mem _ (List.mem_append_left _ (List.mem_append_right _ h9))
  have hiX2 : ∀ w ∈ wsX20, w ∈ wsX4_personsIn := fun _ h9 => List.mem_cons_of_mem _ (List.mem_append_right _ h9)
  have hl : lv_has ls 4 [(0, .ref sc), (1, .int i0)] := hl
  refine lv_iconst (v := 0) hx hb dX4_personsIn_0 (by decide) ?_
  refine lv_istore_n (lv' := [(2, .int 0), (0, .ref sc), (1, .int i0)]) hx hb dX4_personsIn_1 rfl hl (by decide) rfl (fun ls hl => ?_)
  refine lv_iconst (v := 0) hx hb dX4_personsIn_2 (by decide) ?_
  refine lv_istore_n (lv' := [(3, .int 0), (2, .int 0), (0, .ref sc), (1, .int i0)]) hx hb dX4_personsIn_3 rfl hl (by decide) rfl (fun ls hl => ?_)
  have LP1 : ∀ (n : Nat) (v1_2 : Int32) (v1_3 : Int32) (H : Heap) (locs : List Loc) (ls : Array Slot), z_in 0 127 v1_2 → z_in 0 7 v1_3 → 8 - v1_3.toInt ≤ (n : Int) → va_P D vwCl [(sc, .inr (4, [.ref tw, .int scd, .int sch, .int scs, .ref scp, .ref scw, .ref scc, .ref scf])), (scp, .inl (scpt, 7, .inl scpf)), (scw, .inl (scwt, 6, .inl scwf)), (scc, .inl (scct, 6, .inl sccf)), (scf, .inl (scft, 6, .inl scff)), (tw, .inr (8, [.ref twl, .ref twp, .ref twu, .int twe, .ref twh, .ref tws, .ref twg, .int twm, .ref two, .ref twd, .ref twq, .int twr])), (twl, .inr (2, [.ref twlc, .int twln])), (twlc, .inl (twlct, 5, .inr (.inl twlcf))), (twp, .inr (2, [.ref twpc, .int twpn])), (twpc, .inl (twpct, 7, .inr (.inl twpcf))), (twu, .inr (2, [.ref twuc, .int twun])), (twuc, .inl (twuct, 6, .inr (.inl twucf))), (twh, .inl (twht, 7, .inl twhf)), (tws, .inl (twst, 6, .inl twsf)), (twg, .inl (twgt, 6, .inl twgf)), (two, .inl (twot, 14, .inl twof)), (twd, .inl (twdt, 14, .inl twdf)), (twq, .inl (twqt, 14, .inl twqf))] H → va_D A [(sc, .inr (4, [.ref tw, .int scd, .int sch, .int scs, .ref scp, .ref scw, .ref scc, .ref scf])), (scp, .inl (scpt, 7, .inl scpf)), (scw, .inl (scwt, 6, .inl scwf)), (scc, .inl (scct, 6, .inl sccf)), (scf, .inl (scft, 6, .inl scff)), (tw, .inr (8, [.ref twl, .ref twp, .ref twu, .int twe, .ref twh, .ref tws, .ref twg, .int twm, .ref two, .ref twd, .ref twq, .int twr])), (twl, .inr (2, [.ref twlc, .int twln])), (twlc, .inl (twlct, 5, .inr (.inl twlcf))), (twp, .inr (2, [.ref twpc, .int twpn])), (twpc, .inl (twpct, 7, .inr (.inl twpcf))), (twu, .inr (2, [.ref twuc, .int twun])), (twuc, .inl (twuct, 6, .inr (.inl twucf))), (twh, .inl (twht, 7, .inl twhf)), (tws, .inl (twst, 6, .inl twsf)), (twg, .inl (twgt, 6, .inl twgf)), (two, .inl (twot, 14, .inl twof)), (twd, .inl (twdt, 14, .inl twdf)), (twq, .inl (twqt, 14, .inl twqf))] → va_S A s.heap H locs → lv_has ls 4 [(3, .int v1_3), (2, .int v1_2), (0, .ref sc), (1, .int i0)] → W p l e ({ frames := 0, cells := 0, slots := 0, locals := 0 }) s m ([.ref sc, .int i0] : List Value).toArray below meth c H locs 0 0 Q (F0 m 4 ls []) := by
    intro n
    induction n with
    | zero => intro v1_2 v1_3 H locs ls hv1_2 hv1_3 hn1; exact absurd hn1 (by have q1 := hv1_3.1; have q2 := hv1_3.2; omega)
    | succ n ih1 =>
      intro v1_2 v1_3 H locs ls hv1_2 hv1_3 hn1 hP hD hS hl
      have q1 := hv1_3.1
      have q1' := hv1_3.2
      refine lv_iload_n hx hb dX4_personsIn_4 rfl (lv_at hl 0 rfl) ?_
      refine lv_aload_n hx hb dX4_personsIn_5 rfl (lv_at hl 2 rfl) ?_
      refine va_get (D := D) (ci := 4) (v := .ref tw) (C := RX4) (T := TX4) (N := 8) hx hb hts hiX4 hown hK hP 0 rfl rfl 0 (by decide) (hts _ (List.mem_of_getElem? (i := 1) rfl)) (fun _ h9 => h9) rfl dX4_personsIn_6 ?_
      refine va_get (D := D) (ci := 8) (v := .ref twp) (C := RX8) (T := TX8) (N := 12) hx hb hts hiX8 hown hK hP 5 rfl rfl 1 (by decide) (hts _ (List.mem_of_getElem? (i := 2) rfl)) (fun _ h9 => h9) rfl dX4_personsIn_9 ?_
      refine va_get (D := D) (ci := 2) (v := .int twpn) (C := RX2) (T := TX2) (N := 2) hx hb hts hiX2 hown hK hP 8 rfl rfl 1 (by decide) (hts _ (List.mem_of_getElem? (i := 3) rfl)) (fun _ h9 => h9) rfl dX4_personsIn_12 ?_
      refine lv_icmp_ge (tgt := 40) hx hb dX4_personsIn_15 (by decide) (fun c_1 => ?_) (fun c_1 => ?_)
      · skip
        refine lv_iload_n hx hb dX4_personsIn_40 rfl (lv_at hl 1 rfl) ?_
        exact hret v1_2 ([(sc, .inr (4, [.ref tw, .int scd, .int sch, .int scs, .ref scp, .ref scw, .ref scc, .ref scf])), (scp, .inl (scpt, 7, .inl scpf)), (scw, .inl (scwt, 6, .inl scwf)), (scc, .inl (scct, 6, .inl sccf)), (scf, .inl (scft, 6, .inl scff)), (tw, .inr (8, [.ref twl, .ref twp, .ref twu, .int twe, .ref twh, .ref tws, .ref twg, .int twm, .ref two, .ref twd, .ref twq, .int twr])), (twl, .inr (2, [.ref twlc, .int twln])), (twlc, .inl (twlct, 5, .inr (.inl twlcf))), (twp, .inr (2, [.ref twpc, .int twpn])), (twpc, .inl (twpct, 7, .inr (.inl twpcf))), (twu, .inr (2, [.ref twuc, .int twun])), (twuc, .inl (twuct, 6, .inr (.inl twucf))), (twh, .inl (twht, 7, .inl twhf)), (tws, .inl (twst, 6, .inl twsf)), (twg, .inl (twgt, 6, .inl twgf)), (two, .inl (twot, 14, .inl twof)), (twd, .inl (twdt, 14, .inl twdf)), (twq, .inl (twqt, 14, .inl twqf))], []) _ _ _ _ dX4_personsIn_41 rfl ⟨hv1_2, rfl⟩ hP (hK.sub [] rfl) hD hS
      · skip
        have h_2 : z_in 0 6 v1_3 := z_ltL (Int32.not_le.mp c_1) hv1_3 htwpn rfl
        have h_3 : z_in 1 7 twpn := z_ltR (Int32.not_le.mp c_1) hv1_3 htwpn rfl
        refine lv_aload_n hx hb dX4_personsIn_18 rfl (lv_at hl 2 rfl) ?_
        refine va_get (D := D) (ci := 4) (v := .ref scp) (C := RX4) (T := TX4) (N := 8) hx hb hts hiX4 hown hK hP 0 rfl rfl 4 (by decide) (hts _ (List.mem_of_getElem? (i := 4) rfl)) (fun _ h9 => h9) rfl dX4_personsIn_19 ?_
        refine lv_iload_n hx hb dX4_personsIn_22 rfl (lv_at hl 0 rfl) ?_
        refine va_iald hx hb hK hP 1 0 rfl rfl (z_vp h_2 rfl) dX4_personsIn_23 ?_
        refine lv_topi (fun y_4 ey_4 => ?_)
        have h_5 : z_in 0 4 y_4 := by rw [ey_4]; exact hscpf _
        refine lv_iload_n hx hb dX4_personsIn_24 rfl (lv_at hl 3 rfl) ?_
        refine lv_icmp_ne (tgt := 34) hx hb dX4_personsIn_25 (by decide) (fun c_6 => ?_) (fun c_6 => ?_)
        · skip
          obtain ⟨y_7, ey_7⟩ : ∃ y : Int32, y = v1_3 + 1 := ⟨_, rfl⟩
          have h_8 : z_in 1 7 y_7 := by rw [ey_7]; exact z_add h_2 (z_lit (x := 1) (a := 1) (b := 1) rfl) rfl rfl
          have ty_7 : y_7.toInt = v1_3.toInt + 1 := by rw [ey_7]; exact z_addT h_2 (z_lit (x := 1) (a := 1) (b := 1) rfl) rfl
          refine lv_iinc (v := y_7) (lv' := [(3, .int y_7), (2, .int v1_2), (0, .ref sc), (1, .int i0)]) hx hb dX4_personsIn_34 hl (k := 0) rfl (by rw [ey_7]; rfl) (by decide) rfl (fun ls hl => ?_)
          refine lv_goto (tgt := 4) hx hb dX4_personsIn_37 (by decide) ?_
          exact ih1 v1_2 y_7 _ _ _ hv1_2 (z_w (c := 0) (d := 7) h_8 rfl) (by omega) hP hD hS (lv_sub hl [0, 1, 2, 3] rfl)
        · skip
          have h_9 : z_in 0 2147483647 i0 := z_leR (Int32.le_of_eq c_6) h_5 (z_any i0) rfl
          have h_10 : z_in 0 4 i0 := z_leL (Int32.le_of_eq (Eq.symm c_6)) h_9 h_5 rfl
          refine lv_iload_n hx hb dX4_personsIn_28 rfl (lv_at hl 1 rfl) ?_
          refine lv_iconst (v := 1) hx hb dX4_personsIn_29 (by decide) ?_
          refine lv_iload_n hx hb dX4_personsIn_30 rfl (lv_at hl 0 rfl) ?_
          refine lv_ishl hx hb dX4_personsIn_31 ?_
          refine lv_topi (fun y_11 ey_11 => ?_)
          have h_12 : z_in 1 64 y_11 := by rw [ey_11]; exact z_shl1 h_2 rfl
          refine lv_ior hx hb dX4_personsIn_32 ?_
          refine lv_topi (fun y_13 ey_13 => ?_)
          have h_14 : z_in 0 127 y_13 := by rw [ey_13]; exact z_or (k := 7) hv1_2 h_12 rfl
          refine lv_istore_n (lv' := [(2, .int y_13), (3, .int v1_3), (0, .ref sc), (1, .int i0)]) hx hb dX4_personsIn_33 rfl hl (by decide) rfl (fun ls hl => ?_)
          obtain ⟨y_15, ey_15⟩ : ∃ y : Int32, y = v1_3 + 1 := ⟨_, rfl⟩
          have h_16 : z_in 1 7 y_15 := by rw [ey_15]; exact z_add h_2 (z_lit (x := 1) (a := 1) (b := 1) rfl) rfl rfl
          have ty_15 : y_15.toInt = v1_3.toInt + 1 := by rw [ey_15]; exact z_addT h_2 (z_lit (x := 1) (a := 1) (b := 1) rfl) rfl
          refine lv_iinc (v := y_15) (lv' := [(3, .int y_15), (2, .int y_13), (0, .ref sc), (1, .int i0)]) hx hb dX4_personsIn_34 hl (k := 1) rfl (by rw [ey_15]; rfl) (by decide) rfl (fun ls hl => ?_)
          refine lv_goto (tgt := 4) hx hb dX4_personsIn_37 (by decide) ?_
          exact ih1 y_13 y_15 _ _ _ h_14 (z_w (c := 0) (d := 7) h_16 rfl) (by omega) hP hD hS (lv_sub hl [0, 1, 2, 3] rfl)
  exact LP1 8 0 0 _ _ _ (z_w (c := 0) (d := 127) (z_lit (x := 0) (a := 0) (b := 0) rfl) rfl) (z_w (c := 0) (d := 7) (z_lit (x := 0) (a := 0) (b := 0) rfl) rfl) (by decide) hP hD hS (lv_sub hl [0, 1, 2, 3] rfl)

set_option maxHeartbeats 8000000 in
set_option maxRecDepth 100000 in
theorem w_Scene_umbrellasIn (l : Launch) (D : va_G) (ad : Nat → Nat) (sc : Nat) (scd : Int32) (sch : Int32) (scs : Int32) (scp : Nat) (scpt : ClassId) (scpf : Nat → Int32) (scw : Nat) (scwt : ClassId) (scwf : Nat → Int32) (scc : Nat) (scct : ClassId) (sccf : Nat → Int32) (scf : Nat) (scft : ClassId) (scff : Nat → Int32) (tw : Nat) (twe : Int32) (twm : Int32) (twr : Int32) (twl : Nat) (twln : Int32) (twlc : Nat) (twlct : ClassId) (twlcf : Nat → Int64) (twp : Nat) (twpn : Int32) (twpc : Nat) (twpct : ClassId) (twpcf : Nat → Int64) (twu : Nat) (twun : Int32) (twuc : Nat) (twuct : ClassId) (twucf : Nat → Int64) (twh : Nat) (twht : ClassId) (twhf : Nat → Int32) (tws : Nat) (twst : ClassId) (twsf : Nat → Int32) (twg : Nat) (twgt : ClassId) (twgf : Nat → Int32) (two : Nat) (twot : ClassId) (twof : Nat → Int32) (twd : Nat) (twdt : ClassId) (twdf : Nat → Int32) (twq : Nat) (twqt : ClassId) (twqf : Nat → Int32) (i0 : Int32) (hscpf : z_al 0 4 scpf) (hscwf : z_al 0 4 scwf) (hsccf : z_al (-1) 6 sccf) (hscff : z_al 0 12 scff) (htwm : z_in 0 14 twm) (htwr : z_in 0 5 twr) (htwln : z_in 0 5 twln) (htwpn : z_in 0 7 twpn) (htwun : z_in 0 6 twun) (htwhf : z_al 0 4 twhf) (htwsf : z_al 0 4 twsf) (htwgf : z_al 0 12 twgf) (htwof : z_al 0 6 twof) (htwdf : z_al 0 199 twdf) (htwqf : z_al 0 20 twqf) : z_Mi l yX4_umbrellasIn wsX4_umbrellasIn { frames := 1, cells := 0, slots := 0, locals := 22 } D ad [.ref sc, .int i0] [(sc, .inr (4, [.ref tw, .int scd, .int sch, .int scs, .ref scp, .ref scw, .ref scc, .ref scf])), (scp, .inl (scpt, 7, .inl scpf)), (scw, .inl (scwt, 6, .inl scwf)), (scc, .inl (scct, 6, .inl sccf)), (scf, .inl (scft, 6, .inl scff)), (tw, .inr (8, [.ref twl, .ref twp, .ref twu, .int twe, .ref twh, .ref tws, .ref twg, .int twm, .ref two, .ref twd, .ref twq, .int twr])), (twl, .inr (2, [.ref twlc, .int twln])), (twlc, .inl (twlct, 5, .inr (.inl twlcf))), (twp, .inr (2, [.ref twpc, .int twpn])), (twpc, .inl (twpct, 7, .inr (.inl twpcf))), (twu, .inr (2, [.ref twuc, .int twun])), (twuc, .inl (twuct, 6, .inr (.inl twucf))), (twh, .inl (twht, 7, .inl twhf)), (tws, .inl (twst, 6, .inl twsf)), (twg, .inl (twgt, 6, .inl twgf)), (two, .inl (twot, 14, .inl twof)), (twd, .inl (twdt, 14, .inl twdf)), (twq, .inl (twqt, 14, .inl twqf))] [(scpt, .int), (scwt, .int), (scct, .int), (scft, .int), (twlct, .long), (twpct, .long), (twuct, .long), (twht, .int), (twst, .int), (twgt, .int), (twot, .int), (twdt, .int), (twqt, .int)] 0 0 (fun r9 u9 => z_in 0 63 r9 ∧ u9 = ([(sc, .inr (4, [.ref tw, .int scd, .int sch, .int scs, .ref scp, .ref scw, .ref scc, .ref scf])), (scp, .inl (scpt, 7, .inl scpf)), (scw, .inl (scwt, 6, .inl scwf)), (scc, .inl (scct, 6, .inl sccf)), (scf, .inl (scft, 6, .inl scff)), (tw, .inr (8, [.ref twl, .ref twp, .ref twu, .int twe, .ref twh, .ref tws, .ref twg, .int twm, .ref two, .ref twd, .ref twq, .int twr])), (twl, .inr (2, [.ref twlc, .int twln])), (twlc, .inl (twlct, 5, .inr (.inl twlcf))), (twp, .inr (2, [.ref twpc, .int twpn])), (twpc, .inl (twpct, 7, .inr (.inl twpcf))), (twu, .inr (2, [.ref twuc, .int twun])), (twuc, .inl (twuct, 6, .inr (.inl twucf))), (twh, .inl (twht, 7, .inl twhf)), (tws, .inl (twst, 6, .inl twsf)), (twg, .inl (twgt, 6, .inl twgf)), (two, .inl (twot, 14, .inl twof)), (twd, .inl (twdt, 14, .inl twdf)), (twq, .inl (twqt, 14, .inl twqf))], [])) := by
  refine z_ofI (cc := cX4_umbrellasIn) (maxL := 4) (rt := .int) (by decide) rfl (Nat.le_of_ble_eq_true rfl) ?_
  intro p e s m below meth c Q A ls hx hb hml hown hts hin hK hP hD hA hE hO hS hl hret
  have hown : s.vm.findClass RX4 = some m.cls := hown
  have hiX4 : ∀ w ∈ wsX40, w ∈ wsX4_umbrellasIn := fun _ h9 => List.mem_cons_of_mem _ (List.mem_append_left _ (List.mem_append_left _ (List.mem_append_right _ h9)))
  have hiX8 : ∀ w ∈ wsX80, w ∈ wsX4_umbrellasIn := fun _ h9 => List.mem_cons_of_mem _ (List.mem_append_left _ (List.mem_append_right _ h9))
  have hiX2 : ∀ w ∈ wsX20, w ∈ wsX4_umbrellasIn := fun _ h9 => List.mem_cons_of_mem _ (List.mem_append_right _ h9)
  have hl : lv_has ls 4 [(0, .ref sc), (1, .int i0)] := hl
  refine lv_iconst (v := 0) hx hb dX4_umbrellasIn_0 (by decide) ?_
  refine lv_istore_n (lv' := [(2, .int 0), (0, .ref sc), (1, .int i0)]) hx hb dX4_umbrellasIn_1 rfl hl (by decide) rfl (fun ls hl => ?_)
  refine lv_iconst (v := 0) hx hb dX4_umbrellasIn_2 (by decide) ?_
  refine lv_istore_n (lv' := [(3, .int 0), (2, .int 0), (0, .ref sc), (1, .int i0)]) hx hb dX4_umbrellasIn_3 rfl hl (by decide) rfl (fun ls hl => ?_)
  have LP1 : ∀ (n : Nat) (v1_2 : Int32) (v1_3 : Int32) (H : Heap) (locs : List Loc) (ls : Array Slot), z_in 0 63 v1_2 → z_in 0 6 v1_3 → 7 - v1_3.toInt ≤ (n : Int) → va_P D vwCl [(sc, .inr (4, [.ref tw, .int scd, .int sch, .int scs, .ref scp, .ref scw, .ref scc, .ref scf])), (scp, .inl (scpt, 7, .inl scpf)), (scw, .inl (scwt, 6, .inl scwf)), (scc, .inl (scct, 6, .inl sccf)), (scf, .inl (scft, 6, .inl scff)), (tw, .inr (8, [.ref twl, .ref twp, .ref twu, .int twe, .ref twh, .ref tws, .ref twg, .int twm, .ref two, .ref twd, .ref twq, .int twr])), (twl, .inr (2, [.ref twlc, .int twln])), (twlc, .inl (twlct, 5, .inr (.inl twlcf))), (twp, .inr (2, [.ref twpc, .int twpn])), (twpc, .inl (twpct, 7, .inr (.inl twpcf))), (twu, .inr (2, [.ref twuc, .int twun])), (twuc, .inl (twuct, 6, .inr (.inl twucf))), (twh, .inl (twht, 7, .inl twhf)), (tws, .inl (twst, 6, .inl twsf)), (twg, .inl (twgt, 6, .inl twgf)), (two, .inl (twot, 14, .inl twof)), (twd, .inl (twdt, 14, .inl twdf)), (twq, .inl (twqt, 14, .inl twqf))] H → va_D A [(sc, .inr (4, [.ref tw, .int scd, .int sch, .int scs, .ref scp, .ref scw, .ref scc, .ref scf])), (scp, .inl (scpt, 7, .inl scpf)), (scw, .inl (scwt, 6, .inl scwf)), (scc, .inl (scct, 6, .inl sccf)), (scf, .inl (scft, 6, .inl scff)), (tw, .inr (8, [.ref twl, .ref twp, .ref twu, .int twe, .ref twh, .ref tws, .ref twg, .int twm, .ref two, .ref twd, .ref twq, .int twr])), (twl, .inr (2, [.ref twlc, .int twln])), (twlc, .inl (twlct, 5, .inr (.inl twlcf))), (twp, .inr (2, [.ref twpc, .int twpn])), (twpc, .inl (twpct, 7, .inr (.inl twpcf))), (twu, .inr (2, [.ref twuc, .int twun])), (twuc, .inl (twuct, 6, .inr (.inl twucf))), (twh, .inl (twht, 7, .inl twhf)), (tws, .inl (twst, 6, .inl twsf)), (twg, .inl (twgt, 6, .inl twgf)), (two, .inl (twot, 14, .inl twof)), (twd, .inl (twdt, 14, .inl twdf)), (twq, .inl (twqt, 14, .inl twqf))] → va_S A s.heap H locs → lv_has ls 4 [(3, .int v1_3), (2, .int v1_2), (0, .ref sc), (1, .int i0)] → W p l e ({ frames := 1, cells := 0, slots := 0, locals := 22 }) s m ([.ref sc, .int i0] : List Value).toArray below meth c H locs 0 0 Q (F0 m 4 ls []) := by
    intro n
    induction n with
    | zero => intro v1_2 v1_3 H locs ls hv1_2 hv1_3 hn1; exact absurd hn1 (by have q1 := hv1_3.1; have q2 := hv1_3.2; omega)
    | succ n ih1 =>
      intro v1_2 v1_3 H locs ls hv1_2 hv1_3 hn1 hP hD hS hl
      have q1 := hv1_3.1
      have q1' := hv1_3.2
      refine lv_iload_n hx hb dX4_umbrellasIn_4 rfl (lv_at hl 0 rfl) ?_
      refine lv_aload_n hx hb dX4_umbrellasIn_5 rfl (lv_at hl 2 rfl) ?_
      refine va_get (D := D) (ci := 4) (v := .ref tw) (C := RX4) (T := TX4) (N := 8) hx hb hts hiX4 hown hK hP 0 rfl rfl 0 (by decide) (hts _ (List.mem_of_getElem? (i := 1) rfl)) (fun _ h9 => h9) rfl dX4_umbrellasIn_6 ?_
      refine va_get (D := D) (ci := 8) (v := .ref twu) (C := RX8) (T := TX8) (N := 12) hx hb hts hiX8 hown hK hP 5 rfl rfl 2 (by decide) (hts _ (List.mem_of_getElem? (i := 2) rfl)) (fun _ h9 => h9) rfl dX4_umbrellasIn_9 ?_
      refine va_get (D := D) (ci := 2) (v := .int twun) (C := RX2) (T := TX2) (N := 2) hx hb hts hiX2 hown hK hP 10 rfl rfl 1 (by decide) (hts _ (List.mem_of_getElem? (i := 3) rfl)) (fun _ h9 => h9) rfl dX4_umbrellasIn_12 ?_
      refine lv_icmp_ge (tgt := 39) hx hb dX4_umbrellasIn_15 (by decide) (fun c_1 => ?_) (fun c_1 => ?_)
      · skip
        refine lv_iload_n hx hb dX4_umbrellasIn_39 rfl (lv_at hl 1 rfl) ?_
        exact hret v1_2 ([(sc, .inr (4, [.ref tw, .int scd, .int sch, .int scs, .ref scp, .ref scw, .ref scc, .ref scf])), (scp, .inl (scpt, 7, .inl scpf)), (scw, .inl (scwt, 6, .inl scwf)), (scc, .inl (scct, 6, .inl sccf)), (scf, .inl (scft, 6, .inl scff)), (tw, .inr (8, [.ref twl, .ref twp, .ref twu, .int twe, .ref twh, .ref tws, .ref twg, .int twm, .ref two, .ref twd, .ref twq, .int twr])), (twl, .inr (2, [.ref twlc, .int twln])), (twlc, .inl (twlct, 5, .inr (.inl twlcf))), (twp, .inr (2, [.ref twpc, .int twpn])), (twpc, .inl (twpct, 7, .inr (.inl twpcf))), (twu, .inr (2, [.ref twuc, .int twun])), (twuc, .inl (twuct, 6, .inr (.inl twucf))), (twh, .inl (twht, 7, .inl twhf)), (tws, .inl (twst, 6, .inl twsf)), (twg, .inl (twgt, 6, .inl twgf)), (two, .inl (twot, 14, .inl twof)), (twd, .inl (twdt, 14, .inl twdf)), (twq, .inl (twqt, 14, .inl twqf))], []) _ _ _ _ dX4_umbrellasIn_40 rfl ⟨hv1_2, rfl⟩ hP (hK.sub [] rfl) hD hS
      · skip
        have h_2 : z_in 0 5 v1_3 := z_ltL (Int32.not_le.mp c_1) hv1_3 htwun rfl
        have h_3 : z_in 1 6 twun := z_ltR (Int32.not_le.mp c_1) hv1_3 htwun rfl
        refine lv_aload_n hx hb dX4_umbrellasIn_18 rfl (lv_at hl 2 rfl) ?_
        refine lv_iload_n hx hb dX4_umbrellasIn_19 rfl (lv_at hl 0 rfl) ?_
        have hc9 := (w_Scene_whereIs l D ad sc scd sch scs scp scpt scpf scw scwt scwf scc scct sccf scf scft scff tw twe twm twr twl twln twlc twlct twlcf twp twpn twpc twpct twpcf twu twun twuc twuct twucf twh twht twhf tws twst twsf twg twgt twgf two twot twof twd twdt twdf twq twqt twqf v1_3 hscpf hscwf hsccf hscff htwm htwr htwln htwpn (z_w (c := 0) (d := 6) h_3 rfl) htwhf htwsf htwgf htwof htwdf htwqf h_2)
        refine z_calli (w0 := [(sc, .inr (4, [.ref tw, .int scd, .int sch, .int scs, .ref scp, .ref scw, .ref scc, .ref scf])), (scp, .inl (scpt, 7, .inl scpf)), (scw, .inl (scwt, 6, .inl scwf)), (scc, .inl (scct, 6, .inl sccf)), (scf, .inl (scft, 6, .inl scff)), (tw, .inr (8, [.ref twl, .ref twp, .ref twu, .int twe, .ref twh, .ref tws, .ref twg, .int twm, .ref two, .ref twd, .ref twq, .int twr])), (twl, .inr (2, [.ref twlc, .int twln])), (twlc, .inl (twlct, 5, .inr (.inl twlcf))), (twp, .inr (2, [.ref twpc, .int twpn])), (twpc, .inl (twpct, 7, .inr (.inl twpcf))), (twu, .inr (2, [.ref twuc, .int twun])), (twuc, .inl (twuct, 6, .inr (.inl twucf))), (twh, .inl (twht, 7, .inl twhf)), (tws, .inl (twst, 6, .inl twsf)), (twg, .inl (twgt, 6, .inl twgf)), (two, .inl (twot, 14, .inl twof)), (twd, .inl (twdt, 14, .inl twdf)), (twq, .inl (twqt, 14, .inl twqf))]) (wr := []) (va_runV (As := [.int v1_3]) (rest := []) ⟨hx, hb, hml, hown, hts⟩ (hc9 _) (cwV 1 hts gX4_umbrellasIn_X4_whereIs rfl rfl rfl (by decide +kernel) ⟨Nat.le_of_ble_eq_true rfl, Nat.le_of_ble_eq_true rfl⟩) (z_preV hP hD hK hS hA hE hO [0, 1, 2, 3, 4, 5, 6, 7, 8, 9, 10, 11, 12, 13, 14, 15, 16, 17] [0, 1, 2, 3, 4, 5, 6, 7, 8, 9, 10, 11, 12] rfl (by decide +kernel) rfl 0 4 rfl rfl rfl) rfl rfl hl.1 rfl (lv_room (Nat.le_of_ble_eq_true rfl)) dX4_umbrellasIn_20 ⟨Nat.le_of_ble_eq_true rfl, Nat.le_of_ble_eq_true rfl⟩) hP hD hK hS hA [0, 1, 2, 3, 4, 5, 6, 7, 8, 9, 10, 11, 12, 13, 14, 15, 16, 17] [] rfl rfl (by decide +kernel) (by decide +kernel) (fun y_4 u9 H locs hw hP hD hK hS => ?_)
        obtain ⟨h_5, rfl⟩ := hw
        have hP : va_P D vwCl [(sc, .inr (4, [.ref tw, .int scd, .int sch, .int scs, .ref scp, .ref scw, .ref scc, .ref scf])), (scp, .inl (scpt, 7, .inl scpf)), (scw, .inl (scwt, 6, .inl scwf)), (scc, .inl (scct, 6, .inl sccf)), (scf, .inl (scft, 6, .inl scff)), (tw, .inr (8, [.ref twl, .ref twp, .ref twu, .int twe, .ref twh, .ref tws, .ref twg, .int twm, .ref two, .ref twd, .ref twq, .int twr])), (twl, .inr (2, [.ref twlc, .int twln])), (twlc, .inl (twlct, 5, .inr (.inl twlcf))), (twp, .inr (2, [.ref twpc, .int twpn])), (twpc, .inl (twpct, 7, .inr (.inl twpcf))), (twu, .inr (2, [.ref twuc, .int twun])), (twuc, .inl (twuct, 6, .inr (.inl twucf))), (twh, .inl (twht, 7, .inl twhf)), (tws, .inl (twst, 6, .inl twsf)), (twg, .inl (twgt, 6, .inl twgf)), (two, .inl (twot, 14, .inl twof)), (twd, .inl (twdt, 14, .inl twdf)), (twq, .inl (twqt, 14, .inl twqf))] H := hP
        have hD : va_D A [(sc, .inr (4, [.ref tw, .int scd, .int sch, .int scs, .ref scp, .ref scw, .ref scc, .ref scf])), (scp, .inl (scpt, 7, .inl scpf)), (scw, .inl (scwt, 6, .inl scwf)), (scc, .inl (scct, 6, .inl sccf)), (scf, .inl (scft, 6, .inl scff)), (tw, .inr (8, [.ref twl, .ref twp, .ref twu, .int twe, .ref twh, .ref tws, .ref twg, .int twm, .ref two, .ref twd, .ref twq, .int twr])), (twl, .inr (2, [.ref twlc, .int twln])), (twlc, .inl (twlct, 5, .inr (.inl twlcf))), (twp, .inr (2, [.ref twpc, .int twpn])), (twpc, .inl (twpct, 7, .inr (.inl twpcf))), (twu, .inr (2, [.ref twuc, .int twun])), (twuc, .inl (twuct, 6, .inr (.inl twucf))), (twh, .inl (twht, 7, .inl twhf)), (tws, .inl (twst, 6, .inl twsf)), (twg, .inl (twgt, 6, .inl twgf)), (two, .inl (twot, 14, .inl twof)), (twd, .inl (twdt, 14, .inl twdf)), (twq, .inl (twqt, 14, .inl twqf))] := hD
        have hK : va_K D vwCl [(scpt, .int), (scwt, .int), (scct, .int), (scft, .int), (twlct, .long), (twpct, .long), (twuct, .long), (twht, .int), (twst, .int), (twgt, .int), (twot, .int), (twdt, .int), (twqt, .int)] s := hK
        refine W.cs (cells' := 0) (slots' := 0) rfl rfl ?_
        refine W.eq (g2 := F0 m 23 ls (.int y_4 :: [])) rfl ?_
        refine lv_iload_n hx hb dX4_umbrellasIn_23 rfl (lv_at hl 3 rfl) ?_
        refine lv_icmp_ne (tgt := 33) hx hb dX4_umbrellasIn_24 (by decide) (fun c_6 => ?_) (fun c_6 => ?_)
        · skip
          obtain ⟨y_7, ey_7⟩ : ∃ y : Int32, y = v1_3 + 1 := ⟨_, rfl⟩
          have h_8 : z_in 1 6 y_7 := by rw [ey_7]; exact z_add h_2 (z_lit (x := 1) (a := 1) (b := 1) rfl) rfl rfl
          have ty_7 : y_7.toInt = v1_3.toInt + 1 := by rw [ey_7]; exact z_addT h_2 (z_lit (x := 1) (a := 1) (b := 1) rfl) rfl
          refine lv_iinc (v := y_7) (lv' := [(3, .int y_7), (2, .int v1_2), (0, .ref sc), (1, .int i0)]) hx hb dX4_umbrellasIn_33 hl (k := 0) rfl (by rw [ey_7]; rfl) (by decide) rfl (fun ls hl => ?_)
          refine lv_goto (tgt := 4) hx hb dX4_umbrellasIn_36 (by decide) ?_
          exact ih1 v1_2 y_7 _ _ _ hv1_2 (z_w (c := 0) (d := 6) h_8 rfl) (by omega) hP hD hS (lv_sub hl [0, 1, 2, 3] rfl)
        · skip
          have h_9 : z_in 0 2147483647 i0 := z_leR (Int32.le_of_eq c_6) h_5 (z_any i0) rfl
          have h_10 : z_in 0 4 i0 := z_leL (Int32.le_of_eq (Eq.symm c_6)) h_9 h_5 rfl
          refine lv_iload_n hx hb dX4_umbrellasIn_27 rfl (lv_at hl 1 rfl) ?_
          refine lv_iconst (v := 1) hx hb dX4_umbrellasIn_28 (by decide) ?_
          refine lv_iload_n hx hb dX4_umbrellasIn_29 rfl (lv_at hl 0 rfl) ?_
          refine lv_ishl hx hb dX4_umbrellasIn_30 ?_
          refine lv_topi (fun y_11 ey_11 => ?_)
          have h_12 : z_in 1 32 y_11 := by rw [ey_11]; exact z_shl1 h_2 rfl
          refine lv_ior hx hb dX4_umbrellasIn_31 ?_
          refine lv_topi (fun y_13 ey_13 => ?_)
          have h_14 : z_in 0 63 y_13 := by rw [ey_13]; exact z_or (k := 6) hv1_2 h_12 rfl
          refine lv_istore_n (lv' := [(2, .int y_13), (3, .int v1_3), (0, .ref sc), (1, .int i0)]) hx hb dX4_umbrellasIn_32 rfl hl (by decide) rfl (fun ls hl => ?_)
          obtain ⟨y_15, ey_15⟩ : ∃ y : Int32, y = v1_3 + 1 := ⟨_, rfl⟩
          have h_16 : z_in 1 6 y_15 := by rw [ey_15]; exact z_add h_2 (z_lit (x := 1) (a := 1) (b := 1) rfl) rfl rfl
          have ty_15 : y_15.toInt = v1_3.toInt + 1 := by rw [ey_15]; exact z_addT h_2 (z_lit (x := 1) (a := 1) (b := 1) rfl) rfl
          refine lv_iinc (v := y_15) (lv' := [(3, .int y_15), (2, .int y_13), (0, .ref sc), (1, .int i0)]) hx hb dX4_umbrellasIn_33 hl (k := 1) rfl (by rw [ey_15]; rfl) (by decide) rfl (fun ls hl => ?_)
          refine lv_goto (tgt := 4) hx hb dX4_umbrellasIn_36 (by decide) ?_
          exact ih1 y_13 y_15 _ _ _ h_14 (z_w (c := 0) (d := 6) h_16 rfl) (by omega) hP hD hS (lv_sub hl [0, 1, 2, 3] rfl)
  exact LP1 7 0 0 _ _ _ (z_w (c := 0) (d := 63) (z_lit (x := 0) (a := 0) (b := 0) rfl) rfl) (z_w (c := 0) (d := 6) (z_lit (x := 0) (a := 0) (b := 0) rfl) rfl) (by decide) hP hD hS (lv_sub hl [0, 1, 2, 3] rfl)

set_option maxHeartbeats 8000000 in
set_option maxRecDepth 100000 in
theorem w_Scene_isAlone (l : Launch) (D : va_G) (ad : Nat → Nat) (sc : Nat) (scd : Int32) (sch : Int32) (scs : Int32) (scp : Nat) (scpt : ClassId) (scpf : Nat → Int32) (scw : Nat) (scwt : ClassId) (scwf : Nat → Int32) (scc : Nat) (scct : ClassId) (sccf : Nat → Int32) (scf : Nat) (scft : ClassId) (scff : Nat → Int32) (tw : Nat) (twe : Int32) (twm : Int32) (twr : Int32) (twl : Nat) (twln : Int32) (twlc : Nat) (twlct : ClassId) (twlcf : Nat → Int64) (twp : Nat) (twpn : Int32) (twpc : Nat) (twpct : ClassId) (twpcf : Nat → Int64) (twu : Nat) (twun : Int32) (twuc : Nat) (twuct : ClassId) (twucf : Nat → Int64) (twh : Nat) (twht : ClassId) (twhf : Nat → Int32) (tws : Nat) (twst : ClassId) (twsf : Nat → Int32) (twg : Nat) (twgt : ClassId) (twgf : Nat → Int32) (two : Nat) (twot : ClassId) (twof : Nat → Int32) (twd : Nat) (twdt : ClassId) (twdf : Nat → Int32) (twq : Nat) (twqt : ClassId) (twqf : Nat → Int32) (i0 : Int32) (hscpf : z_al 0 4 scpf) (hscwf : z_al 0 4 scwf) (hsccf : z_al (-1) 6 sccf) (hscff : z_al 0 12 scff) (htwm : z_in 0 14 twm) (htwr : z_in 0 5 twr) (htwln : z_in 0 5 twln) (htwpn : z_in 0 7 twpn) (htwun : z_in 0 6 twun) (htwhf : z_al 0 4 twhf) (htwsf : z_al 0 4 twsf) (htwgf : z_al 0 12 twgf) (htwof : z_al 0 6 twof) (htwdf : z_al 0 199 twdf) (htwqf : z_al 0 20 twqf) (hi0 : z_in 0 6 i0) : z_Mi l yX4_isAlone wsX4_isAlone { frames := 1, cells := 0, slots := 0, locals := 23 } D ad [.ref sc, .int i0] [(sc, .inr (4, [.ref tw, .int scd, .int sch, .int scs, .ref scp, .ref scw, .ref scc, .ref scf])), (scp, .inl (scpt, 7, .inl scpf)), (scw, .inl (scwt, 6, .inl scwf)), (scc, .inl (scct, 6, .inl sccf)), (scf, .inl (scft, 6, .inl scff)), (tw, .inr (8, [.ref twl, .ref twp, .ref twu, .int twe, .ref twh, .ref tws, .ref twg, .int twm, .ref two, .ref twd, .ref twq, .int twr])), (twl, .inr (2, [.ref twlc, .int twln])), (twlc, .inl (twlct, 5, .inr (.inl twlcf))), (twp, .inr (2, [.ref twpc, .int twpn])), (twpc, .inl (twpct, 7, .inr (.inl twpcf))), (twu, .inr (2, [.ref twuc, .int twun])), (twuc, .inl (twuct, 6, .inr (.inl twucf))), (twh, .inl (twht, 7, .inl twhf)), (tws, .inl (twst, 6, .inl twsf)), (twg, .inl (twgt, 6, .inl twgf)), (two, .inl (twot, 14, .inl twof)), (twd, .inl (twdt, 14, .inl twdf)), (twq, .inl (twqt, 14, .inl twqf))] [(scpt, .int), (scwt, .int), (scct, .int), (scft, .int), (twlct, .long), (twpct, .long), (twuct, .long), (twht, .int), (twst, .int), (twgt, .int), (twot, .int), (twdt, .int), (twqt, .int)] 0 0 (fun r9 u9 => z_in 0 1 r9 ∧ u9 = ([(sc, .inr (4, [.ref tw, .int scd, .int sch, .int scs, .ref scp, .ref scw, .ref scc, .ref scf])), (scp, .inl (scpt, 7, .inl scpf)), (scw, .inl (scwt, 6, .inl scwf)), (scc, .inl (scct, 6, .inl sccf)), (scf, .inl (scft, 6, .inl scff)), (tw, .inr (8, [.ref twl, .ref twp, .ref twu, .int twe, .ref twh, .ref tws, .ref twg, .int twm, .ref two, .ref twd, .ref twq, .int twr])), (twl, .inr (2, [.ref twlc, .int twln])), (twlc, .inl (twlct, 5, .inr (.inl twlcf))), (twp, .inr (2, [.ref twpc, .int twpn])), (twpc, .inl (twpct, 7, .inr (.inl twpcf))), (twu, .inr (2, [.ref twuc, .int twun])), (twuc, .inl (twuct, 6, .inr (.inl twucf))), (twh, .inl (twht, 7, .inl twhf)), (tws, .inl (twst, 6, .inl twsf)), (twg, .inl (twgt, 6, .inl twgf)), (two, .inl (twot, 14, .inl twof)), (twd, .inl (twdt, 14, .inl twdf)), (twq, .inl (twqt, 14, .inl twqf))], [])) := by
  refine z_ofI (cc := cX4_isAlone) (maxL := 2) (rt := .boolean) (by decide) rfl (Nat.le_of_ble_eq_true rfl) ?_
  intro p e s m below meth c Q A ls hx hb hml hown hts hin hK hP hD hA hE hO hS hl hret
  have hown : s.vm.findClass RX4 = some m.cls := hown
  have hiX4 : ∀ w ∈ wsX40, w ∈ wsX4_isAlone := fun _ h9 => List.mem_cons_of_mem _ (List.mem_append_left _ (List.mem_append_left _ (List.mem_append_right _ h9)))
  have hiX8 : ∀ w ∈ wsX80, w ∈ wsX4_isAlone := fun _ h9 => List.mem_cons_of_mem _ (List.mem_append_left _ (List.mem_append_right _ h9))
  have hiX2 : ∀ w ∈ wsX20, w ∈ wsX4_isAlone := fun _ h9 => List.mem_cons_of_mem _ (List.mem_append_right _ h9)
  have hl : lv_has ls 2 [(0, .ref sc), (1, .int i0)] := hl
  refine lv_aload_n hx hb dX4_isAlone_0 rfl (lv_at hl 0 rfl) ?_
  refine lv_aload_n hx hb dX4_isAlone_1 rfl (lv_at hl 0 rfl) ?_
  refine va_get (D := D) (ci := 4) (v := .ref scp) (C := RX4) (T := TX4) (N := 8) hx hb hts hiX4 hown hK hP 0 rfl rfl 4 (by decide) (hts _ (List.mem_of_getElem? (i := 1) rfl)) (fun _ h9 => h9) rfl dX4_isAlone_2 ?_
  refine lv_iload_n hx hb dX4_isAlone_5 rfl (lv_at hl 1 rfl) ?_
  refine va_iald hx hb hK hP 1 0 rfl rfl (z_vp hi0 rfl) dX4_isAlone_6 ?_
  refine lv_topi (fun y_1 ey_1 => ?_)
  have h_2 : z_in 0 4 y_1 := by rw [ey_1]; exact hscpf _
  have hc9 := (w_Scene_personsIn l D ad sc scd sch scs scp scpt scpf scw scwt scwf scc scct sccf scf scft scff tw twe twm twr twl twln twlc twlct twlcf twp twpn twpc twpct twpcf twu twun twuc twuct twucf twh twht twhf tws twst twsf twg twgt twgf two twot twof twd twdt twdf twq twqt twqf y_1 hscpf hscwf hsccf hscff htwm htwr htwln htwpn htwun htwhf htwsf htwgf htwof htwdf htwqf)
  refine z_calli (w0 := [(sc, .inr (4, [.ref tw, .int scd, .int sch, .int scs, .ref scp, .ref scw, .ref scc, .ref scf])), (scp, .inl (scpt, 7, .inl scpf)), (scw, .inl (scwt, 6, .inl scwf)), (scc, .inl (scct, 6, .inl sccf)), (scf, .inl (scft, 6, .inl scff)), (tw, .inr (8, [.ref twl, .ref twp, .ref twu, .int twe, .ref twh, .ref tws, .ref twg, .int twm, .ref two, .ref twd, .ref twq, .int twr])), (twl, .inr (2, [.ref twlc, .int twln])), (twlc, .inl (twlct, 5, .inr (.inl twlcf))), (twp, .inr (2, [.ref twpc, .int twpn])), (twpc, .inl (twpct, 7, .inr (.inl twpcf))), (twu, .inr (2, [.ref twuc, .int twun])), (twuc, .inl (twuct, 6, .inr (.inl twucf))), (twh, .inl (twht, 7, .inl twhf)), (tws, .inl (twst, 6, .inl twsf)), (twg, .inl (twgt, 6, .inl twgf)), (two, .inl (twot, 14, .inl twof)), (twd, .inl (twdt, 14, .inl twdf)), (twq, .inl (twqt, 14, .inl twqf))]) (wr := []) (va_runV (As := [.int y_1]) (rest := []) ⟨hx, hb, hml, hown, hts⟩ (hc9 _) (cwV 1 hts gX4_isAlone_X4_personsIn rfl rfl rfl (by decide +kernel) ⟨Nat.le_of_ble_eq_true rfl, Nat.le_of_ble_eq_true rfl⟩) (z_preV hP hD hK hS hA hE hO [0, 1, 2, 3, 4, 5, 6, 7, 8, 9, 10, 11, 12, 13, 14, 15, 16, 17] [0, 1, 2, 3, 4, 5, 6, 7, 8, 9, 10, 11, 12] rfl (by decide +kernel) rfl 0 4 rfl rfl rfl) rfl rfl hl.1 rfl (lv_room (Nat.le_of_ble_eq_true rfl)) dX4_isAlone_7 ⟨Nat.le_of_ble_eq_true rfl, Nat.le_of_ble_eq_true rfl⟩) hP hD hK hS hA [0, 1, 2, 3, 4, 5, 6, 7, 8, 9, 10, 11, 12, 13, 14, 15, 16, 17] [] rfl rfl (by decide +kernel) (by decide +kernel) (fun y_3 u9 H locs hw hP hD hK hS => ?_)
  obtain ⟨h_4, rfl⟩ := hw
  have hP : va_P D vwCl [(sc, .inr (4, [.ref tw, .int scd, .int sch, .int scs, .ref scp, .ref scw, .ref scc, .ref scf])), (scp, .inl (scpt, 7, .inl scpf)), (scw, .inl (scwt, 6, .inl scwf)), (scc, .inl (scct, 6, .inl sccf)), (scf, .inl (scft, 6, .inl scff)), (tw, .inr (8, [.ref twl, .ref twp, .ref twu, .int twe, .ref twh, .ref tws, .ref twg, .int twm, .ref two, .ref twd, .ref twq, .int twr])), (twl, .inr (2, [.ref twlc, .int twln])), (twlc, .inl (twlct, 5, .inr (.inl twlcf))), (twp, .inr (2, [.ref twpc, .int twpn])), (twpc, .inl (twpct, 7, .inr (.inl twpcf))), (twu, .inr (2, [.ref twuc, .int twun])), (twuc, .inl (twuct, 6, .inr (.inl twucf))), (twh, .inl (twht, 7, .inl twhf)), (tws, .inl (twst, 6, .inl twsf)), (twg, .inl (twgt, 6, .inl twgf)), (two, .inl (twot, 14, .inl twof)), (twd, .inl (twdt, 14, .inl twdf)), (twq, .inl (twqt, 14, .inl twqf))] H := hP
  have hD : va_D A [(sc, .inr (4, [.ref tw, .int scd, .int sch, .int scs, .ref scp, .ref scw, .ref scc, .ref scf])), (scp, .inl (scpt, 7, .inl scpf)), (scw, .inl (scwt, 6, .inl scwf)), (scc, .inl (scct, 6, .inl sccf)), (scf, .inl (scft, 6, .inl scff)), (tw, .inr (8, [.ref twl, .ref twp, .ref twu, .int twe, .ref twh, .ref tws, .ref twg, .int twm, .ref two, .ref twd, .ref twq, .int twr])), (twl, .inr (2, [.ref twlc, .int twln])), (twlc, .inl (twlct, 5, .inr (.inl twlcf))), (twp, .inr (2, [.ref twpc, .int twpn])), (twpc, .inl (twpct, 7, .inr (.inl twpcf))), (twu, .inr (2, [.ref twuc, .int twun])), (twuc, .inl (twuct, 6, .inr (.inl twucf))), (twh, .inl (twht, 7, .inl twhf)), (tws, .inl (twst, 6, .inl twsf)), (twg, .inl (twgt, 6, .inl twgf)), (two, .inl (twot, 14, .inl twof)), (twd, .inl (twdt, 14, .inl twdf)), (twq, .inl (twqt, 14, .inl twqf))] := hD
  have hK : va_K D vwCl [(scpt, .int), (scwt, .int), (scct, .int), (scft, .int), (twlct, .long), (twpct, .long), (twuct, .long), (twht, .int), (twst, .int), (twgt, .int), (twot, .int), (twdt, .int), (twqt, .int)] s := hK
  refine W.cs (cells' := 0) (slots' := 0) rfl rfl ?_
  refine W.eq (g2 := F0 m 10 ls (.int y_3 :: [])) rfl ?_
  refine lv_iconst (v := 1) hx hb dX4_isAlone_10 (by decide) ?_
  refine lv_iload_n hx hb dX4_isAlone_11 rfl (lv_at hl 1 rfl) ?_
  refine lv_ishl hx hb dX4_isAlone_12 ?_
  refine lv_topi (fun y_5 ey_5 => ?_)
  have h_6 : z_in 1 64 y_5 := by rw [ey_5]; exact z_shl1 hi0 rfl
  refine lv_icmp_ne (tgt := 20) hx hb dX4_isAlone_13 (by decide) (fun c_7 => ?_) (fun c_7 => ?_)
  · skip
    refine lv_iconst (v := 0) hx hb dX4_isAlone_20 (by decide) ?_
    exact hret 0 ([(sc, .inr (4, [.ref tw, .int scd, .int sch, .int scs, .ref scp, .ref scw, .ref scc, .ref scf])), (scp, .inl (scpt, 7, .inl scpf)), (scw, .inl (scwt, 6, .inl scwf)), (scc, .inl (scct, 6, .inl sccf)), (scf, .inl (scft, 6, .inl scff)), (tw, .inr (8, [.ref twl, .ref twp, .ref twu, .int twe, .ref twh, .ref tws, .ref twg, .int twm, .ref two, .ref twd, .ref twq, .int twr])), (twl, .inr (2, [.ref twlc, .int twln])), (twlc, .inl (twlct, 5, .inr (.inl twlcf))), (twp, .inr (2, [.ref twpc, .int twpn])), (twpc, .inl (twpct, 7, .inr (.inl twpcf))), (twu, .inr (2, [.ref twuc, .int twun])), (twuc, .inl (twuct, 6, .inr (.inl twucf))), (twh, .inl (twht, 7, .inl twhf)), (tws, .inl (twst, 6, .inl twsf)), (twg, .inl (twgt, 6, .inl twgf)), (two, .inl (twot, 14, .inl twof)), (twd, .inl (twdt, 14, .inl twdf)), (twq, .inl (twqt, 14, .inl twqf))], []) _ _ _ _ dX4_isAlone_21 (by decide) ⟨(z_w (c := 0) (d := 1) (z_lit (x := 0) (a := 0) (b := 0) rfl) rfl), rfl⟩ hP (hK.sub [] rfl) hD hS
  · skip
    have h_8 : z_in 0 64 y_3 := z_leL (Int32.le_of_eq c_7) h_4 h_6 rfl
    have h_9 : z_in 1 64 y_3 := z_leR (Int32.le_of_eq (Eq.symm c_7)) h_6 h_8 rfl
    refine lv_iconst (v := 1) hx hb dX4_isAlone_16 (by decide) ?_
    refine lv_goto (tgt := 21) hx hb dX4_isAlone_17 (by decide) ?_
    exact hret 1 ([(sc, .inr (4, [.ref tw, .int scd, .int sch, .int scs, .ref scp, .ref scw, .ref scc, .ref scf])), (scp, .inl (scpt, 7, .inl scpf)), (scw, .inl (scwt, 6, .inl scwf)), (scc, .inl (scct, 6, .inl sccf)), (scf, .inl (scft, 6, .inl scff)), (tw, .inr (8, [.ref twl, .ref twp, .ref twu, .int twe, .ref twh, .ref tws, .ref twg, .int twm, .ref two, .ref twd, .ref twq, .int twr])), (twl, .inr (2, [.ref twlc, .int twln])), (twlc, .inl (twlct, 5, .inr (.inl twlcf))), (twp, .inr (2, [.ref twpc, .int twpn])), (twpc, .inl (twpct, 7, .inr (.inl twpcf))), (twu, .inr (2, [.ref twuc, .int twun])), (twuc, .inl (twuct, 6, .inr (.inl twucf))), (twh, .inl (twht, 7, .inl twhf)), (tws, .inl (twst, 6, .inl twsf)), (twg, .inl (twgt, 6, .inl twgf)), (two, .inl (twot, 14, .inl twof)), (twd, .inl (twdt, 14, .inl twdf)), (twq, .inl (twqt, 14, .inl twqf))], []) _ _ _ _ dX4_isAlone_21 (by decide) ⟨(z_w (c := 0) (d := 1) (z_lit (x := 1) (a := 1) (b := 1) rfl) rfl), rfl⟩ hP (hK.sub [] rfl) hD hS

set_option maxHeartbeats 8000000 in
set_option maxRecDepth 100000 in
theorem w_Scene_carriedBy (l : Launch) (D : va_G) (ad : Nat → Nat) (sc : Nat) (scd : Int32) (sch : Int32) (scs : Int32) (scp : Nat) (scpt : ClassId) (scpf : Nat → Int32) (scw : Nat) (scwt : ClassId) (scwf : Nat → Int32) (scc : Nat) (scct : ClassId) (sccf : Nat → Int32) (scf : Nat) (scft : ClassId) (scff : Nat → Int32) (tw : Nat) (twe : Int32) (twm : Int32) (twr : Int32) (twl : Nat) (twln : Int32) (twlc : Nat) (twlct : ClassId) (twlcf : Nat → Int64) (twp : Nat) (twpn : Int32) (twpc : Nat) (twpct : ClassId) (twpcf : Nat → Int64) (twu : Nat) (twun : Int32) (twuc : Nat) (twuct : ClassId) (twucf : Nat → Int64) (twh : Nat) (twht : ClassId) (twhf : Nat → Int32) (tws : Nat) (twst : ClassId) (twsf : Nat → Int32) (twg : Nat) (twgt : ClassId) (twgf : Nat → Int32) (two : Nat) (twot : ClassId) (twof : Nat → Int32) (twd : Nat) (twdt : ClassId) (twdf : Nat → Int32) (twq : Nat) (twqt : ClassId) (twqf : Nat → Int32) (i0 : Int32) (hscpf : z_al 0 4 scpf) (hscwf : z_al 0 4 scwf) (hsccf : z_al (-1) 6 sccf) (hscff : z_al 0 12 scff) (htwm : z_in 0 14 twm) (htwr : z_in 0 5 twr) (htwln : z_in 0 5 twln) (htwpn : z_in 0 7 twpn) (htwun : z_in 0 6 twun) (htwhf : z_al 0 4 twhf) (htwsf : z_al 0 4 twsf) (htwgf : z_al 0 12 twgf) (htwof : z_al 0 6 twof) (htwdf : z_al 0 199 twdf) (htwqf : z_al 0 20 twqf) : z_Mi l yX4_carriedBy wsX4_carriedBy { frames := 0, cells := 0, slots := 0, locals := 0 } D ad [.ref sc, .int i0] [(sc, .inr (4, [.ref tw, .int scd, .int sch, .int scs, .ref scp, .ref scw, .ref scc, .ref scf])), (scp, .inl (scpt, 7, .inl scpf)), (scw, .inl (scwt, 6, .inl scwf)), (scc, .inl (scct, 6, .inl sccf)), (scf, .inl (scft, 6, .inl scff)), (tw, .inr (8, [.ref twl, .ref twp, .ref twu, .int twe, .ref twh, .ref tws, .ref twg, .int twm, .ref two, .ref twd, .ref twq, .int twr])), (twl, .inr (2, [.ref twlc, .int twln])), (twlc, .inl (twlct, 5, .inr (.inl twlcf))), (twp, .inr (2, [.ref twpc, .int twpn])), (twpc, .inl (twpct, 7, .inr (.inl twpcf))), (twu, .inr (2, [.ref twuc, .int twun])), (twuc, .inl (twuct, 6, .inr (.inl twucf))), (twh, .inl (twht, 7, .inl twhf)), (tws, .inl (twst, 6, .inl twsf)), (twg, .inl (twgt, 6, .inl twgf)), (two, .inl (twot, 14, .inl twof)), (twd, .inl (twdt, 14, .inl twdf)), (twq, .inl (twqt, 14, .inl twqf))] [(scpt, .int), (scwt, .int), (scct, .int), (scft, .int), (twlct, .long), (twpct, .long), (twuct, .long), (twht, .int), (twst, .int), (twgt, .int), (twot, .int), (twdt, .int), (twqt, .int)] 0 0 (fun r9 u9 => z_in 0 63 r9 ∧ u9 = ([(sc, .inr (4, [.ref tw, .int scd, .int sch, .int scs, .ref scp, .ref scw, .ref scc, .ref scf])), (scp, .inl (scpt, 7, .inl scpf)), (scw, .inl (scwt, 6, .inl scwf)), (scc, .inl (scct, 6, .inl sccf)), (scf, .inl (scft, 6, .inl scff)), (tw, .inr (8, [.ref twl, .ref twp, .ref twu, .int twe, .ref twh, .ref tws, .ref twg, .int twm, .ref two, .ref twd, .ref twq, .int twr])), (twl, .inr (2, [.ref twlc, .int twln])), (twlc, .inl (twlct, 5, .inr (.inl twlcf))), (twp, .inr (2, [.ref twpc, .int twpn])), (twpc, .inl (twpct, 7, .inr (.inl twpcf))), (twu, .inr (2, [.ref twuc, .int twun])), (twuc, .inl (twuct, 6, .inr (.inl twucf))), (twh, .inl (twht, 7, .inl twhf)), (tws, .inl (twst, 6, .inl twsf)), (twg, .inl (twgt, 6, .inl twgf)), (two, .inl (twot, 14, .inl twof)), (twd, .inl (twdt, 14, .inl twdf)), (twq, .inl (twqt, 14, .inl twqf))], [])) := by
  refine z_ofI (cc := cX4_carriedBy) (maxL := 4) (rt := .int) (by decide) rfl (Nat.le_of_ble_eq_true rfl) ?_
  intro p e s m below meth c Q A ls hx hb hml hown hts hin hK hP hD hA hE hO hS hl hret
  have hown : s.vm.findClass RX4 = some m.cls := hown
  have hiX4 : ∀ w ∈ wsX40, w ∈ wsX4_carriedBy := fun _ h9 => List.mem_cons_of_mem _ (List.mem_append_left _ (List.mem_append_left _ (List.mem_append_right _ h9)))
  have hiX8 : ∀ w ∈ wsX80, w ∈ wsX4_carriedBy := fun _ h9 => List.mem_cons_of_mem _ (List.mem_append_left _ (List.mem_append_right _ h9))
  have hiX2 : ∀ w ∈ wsX20, w ∈ wsX4_carriedBy := fun _ h9 => List.mem_cons_of_mem _ (List.mem_append_right _ h9)
  have hl : lv_has ls 4 [(0, .ref sc), (1, .int i0)] := hl
  refine lv_iconst (v := 0) hx hb dX4_carriedBy_0 (by decide) ?_
  refine lv_istore_n (lv' := [(2, .int 0), (0, .ref sc), (1, .int i0)]) hx hb dX4_carriedBy_1 rfl hl (by decide) rfl (fun ls hl => ?_)
  refine lv_iconst (v := 0) hx hb dX4_carriedBy_2 (by decide) ?_
  refine lv_istore_n (lv' := [(3, .int 0), (2, .int 0), (0, .ref sc), (1, .int i0)]) hx hb dX4_carriedBy_3 rfl hl (by decide) rfl (fun ls hl => ?_)
  have LP1 : ∀ (n : Nat) (v1_2 : Int32) (v1_3 : Int32) (H : Heap) (locs : List Loc) (ls : Array Slot), z_in 0 63 v1_2 → z_in 0 6 v1_3 → 7 - v1_3.toInt ≤ (n : Int) → va_P D vwCl [(sc, .inr (4, [.ref tw, .int scd, .int sch, .int scs, .ref scp, .ref scw, .ref scc, .ref scf])), (scp, .inl (scpt, 7, .inl scpf)), (scw, .inl (scwt, 6, .inl scwf)), (scc, .inl (scct, 6, .inl sccf)), (scf, .inl (scft, 6, .inl scff)), (tw, .inr (8, [.ref twl, .ref twp, .ref twu, .int twe, .ref twh, .ref tws, .ref twg, .int twm, .ref two, .ref twd, .ref twq, .int twr])), (twl, .inr (2, [.ref twlc, .int twln])), (twlc, .inl (twlct, 5, .inr (.inl twlcf))), (twp, .inr (2, [.ref twpc, .int twpn])), (twpc, .inl (twpct, 7, .inr (.inl twpcf))), (twu, .inr (2, [.ref twuc, .int twun])), (twuc, .inl (twuct, 6, .inr (.inl twucf))), (twh, .inl (twht, 7, .inl twhf)), (tws, .inl (twst, 6, .inl twsf)), (twg, .inl (twgt, 6, .inl twgf)), (two, .inl (twot, 14, .inl twof)), (twd, .inl (twdt, 14, .inl twdf)), (twq, .inl (twqt, 14, .inl twqf))] H → va_D A [(sc, .inr (4, [.ref tw, .int scd, .int sch, .int scs, .ref scp, .ref scw, .ref scc, .ref scf])), (scp, .inl (scpt, 7, .inl scpf)), (scw, .inl (scwt, 6, .inl scwf)), (scc, .inl (scct, 6, .inl sccf)), (scf, .inl (scft, 6, .inl scff)), (tw, .inr (8, [.ref twl, .ref twp, .ref twu, .int twe, .ref twh, .ref tws, .ref twg, .int twm, .ref two, .ref twd, .ref twq, .int twr])), (twl, .inr (2, [.ref twlc, .int twln])), (twlc, .inl (twlct, 5, .inr (.inl twlcf))), (twp, .inr (2, [.ref twpc, .int twpn])), (twpc, .inl (twpct, 7, .inr (.inl twpcf))), (twu, .inr (2, [.ref twuc, .int twun])), (twuc, .inl (twuct, 6, .inr (.inl twucf))), (twh, .inl (twht, 7, .inl twhf)), (tws, .inl (twst, 6, .inl twsf)), (twg, .inl (twgt, 6, .inl twgf)), (two, .inl (twot, 14, .inl twof)), (twd, .inl (twdt, 14, .inl twdf)), (twq, .inl (twqt, 14, .inl twqf))] → va_S A s.heap H locs → lv_has ls 4 [(3, .int v1_3), (2, .int v1_2), (0, .ref sc), (1, .int i0)] → W p l e ({ frames := 0, cells := 0, slots := 0, locals := 0 }) s m ([.ref sc, .int i0] : List Value).toArray below meth c H locs 0 0 Q (F0 m 4 ls []) := by
    intro n
    induction n with
    | zero => intro v1_2 v1_3 H locs ls hv1_2 hv1_3 hn1; exact absurd hn1 (by have q1 := hv1_3.1; have q2 := hv1_3.2; omega)
    | succ n ih1 =>
      intro v1_2 v1_3 H locs ls hv1_2 hv1_3 hn1 hP hD hS hl
      have q1 := hv1_3.1
      have q1' := hv1_3.2
      refine lv_iload_n hx hb dX4_carriedBy_4 rfl (lv_at hl 0 rfl) ?_
      refine lv_aload_n hx hb dX4_carriedBy_5 rfl (lv_at hl 2 rfl) ?_
      refine va_get (D := D) (ci := 4) (v := .ref tw) (C := RX4) (T := TX4) (N := 8) hx hb hts hiX4 hown hK hP 0 rfl rfl 0 (by decide) (hts _ (List.mem_of_getElem? (i := 1) rfl)) (fun _ h9 => h9) rfl dX4_carriedBy_6 ?_
      refine va_get (D := D) (ci := 8) (v := .ref twu) (C := RX8) (T := TX8) (N := 12) hx hb hts hiX8 hown hK hP 5 rfl rfl 2 (by decide) (hts _ (List.mem_of_getElem? (i := 2) rfl)) (fun _ h9 => h9) rfl dX4_carriedBy_9 ?_
      refine va_get (D := D) (ci := 2) (v := .int twun) (C := RX2) (T := TX2) (N := 2) hx hb hts hiX2 hown hK hP 10 rfl rfl 1 (by decide) (hts _ (List.mem_of_getElem? (i := 3) rfl)) (fun _ h9 => h9) rfl dX4_carriedBy_12 ?_
      refine lv_icmp_ge (tgt := 40) hx hb dX4_carriedBy_15 (by decide) (fun c_1 => ?_) (fun c_1 => ?_)
      · skip
        refine lv_iload_n hx hb dX4_carriedBy_40 rfl (lv_at hl 1 rfl) ?_
        exact hret v1_2 ([(sc, .inr (4, [.ref tw, .int scd, .int sch, .int scs, .ref scp, .ref scw, .ref scc, .ref scf])), (scp, .inl (scpt, 7, .inl scpf)), (scw, .inl (scwt, 6, .inl scwf)), (scc, .inl (scct, 6, .inl sccf)), (scf, .inl (scft, 6, .inl scff)), (tw, .inr (8, [.ref twl, .ref twp, .ref twu, .int twe, .ref twh, .ref tws, .ref twg, .int twm, .ref two, .ref twd, .ref twq, .int twr])), (twl, .inr (2, [.ref twlc, .int twln])), (twlc, .inl (twlct, 5, .inr (.inl twlcf))), (twp, .inr (2, [.ref twpc, .int twpn])), (twpc, .inl (twpct, 7, .inr (.inl twpcf))), (twu, .inr (2, [.ref twuc, .int twun])), (twuc, .inl (twuct, 6, .inr (.inl twucf))), (twh, .inl (twht, 7, .inl twhf)), (tws, .inl (twst, 6, .inl twsf)), (twg, .inl (twgt, 6, .inl twgf)), (two, .inl (twot, 14, .inl twof)), (twd, .inl (twdt, 14, .inl twdf)), (twq, .inl (twqt, 14, .inl twqf))], []) _ _ _ _ dX4_carriedBy_41 rfl ⟨hv1_2, rfl⟩ hP (hK.sub [] rfl) hD hS
      · skip
        have h_2 : z_in 0 5 v1_3 := z_ltL (Int32.not_le.mp c_1) hv1_3 htwun rfl
        have h_3 : z_in 1 6 twun := z_ltR (Int32.not_le.mp c_1) hv1_3 htwun rfl
        refine lv_aload_n hx hb dX4_carriedBy_18 rfl (lv_at hl 2 rfl) ?_
        refine va_get (D := D) (ci := 4) (v := .ref scc) (C := RX4) (T := TX4) (N := 8) hx hb hts hiX4 hown hK hP 0 rfl rfl 6 (by decide) (hts _ (List.mem_of_getElem? (i := 4) rfl)) (fun _ h9 => h9) rfl dX4_carriedBy_19 ?_
        refine lv_iload_n hx hb dX4_carriedBy_22 rfl (lv_at hl 0 rfl) ?_
        refine va_iald hx hb hK hP 3 2 rfl rfl (z_vp h_2 rfl) dX4_carriedBy_23 ?_
        refine lv_topi (fun y_4 ey_4 => ?_)
        have h_5 : z_in (-1) 6 y_4 := by rw [ey_4]; exact hsccf _
        refine lv_iload_n hx hb dX4_carriedBy_24 rfl (lv_at hl 3 rfl) ?_
        refine lv_icmp_ne (tgt := 34) hx hb dX4_carriedBy_25 (by decide) (fun c_6 => ?_) (fun c_6 => ?_)
        · skip
          obtain ⟨y_7, ey_7⟩ : ∃ y : Int32, y = v1_3 + 1 := ⟨_, rfl⟩
          have h_8 : z_in 1 6 y_7 := by rw [ey_7]; exact z_add h_2 (z_lit (x := 1) (a := 1) (b := 1) rfl) rfl rfl
          have ty_7 : y_7.toInt = v1_3.toInt + 1 := by rw [ey_7]; exact z_addT h_2 (z_lit (x := 1) (a := 1) (b := 1) rfl) rfl
          refine lv_iinc (v := y_7) (lv' := [(3, .int y_7), (2, .int v1_2), (0, .ref sc), (1, .int i0)]) hx hb dX4_carriedBy_34 hl (k := 0) rfl (by rw [ey_7]; rfl) (by decide) rfl (fun ls hl => ?_)
          refine lv_goto (tgt := 4) hx hb dX4_carriedBy_37 (by decide) ?_
          exact ih1 v1_2 y_7 _ _ _ hv1_2 (z_w (c := 0) (d := 6) h_8 rfl) (by omega) hP hD hS (lv_sub hl [0, 1, 2, 3] rfl)
        · skip
          have h_9 : z_in (-1) 2147483647 i0 := z_leR (Int32.le_of_eq c_6) h_5 (z_any i0) rfl
          have h_10 : z_in (-1) 6 i0 := z_leL (Int32.le_of_eq (Eq.symm c_6)) h_9 h_5 rfl
          refine lv_iload_n hx hb dX4_carriedBy_28 rfl (lv_at hl 1 rfl) ?_
          refine lv_iconst (v := 1) hx hb dX4_carriedBy_29 (by decide) ?_
          refine lv_iload_n hx hb dX4_carriedBy_30 rfl (lv_at hl 0 rfl) ?_
          refine lv_ishl hx hb dX4_carriedBy_31 ?_
          refine lv_topi (fun y_11 ey_11 => ?_)
          have h_12 : z_in 1 32 y_11 := by rw [ey_11]; exact z_shl1 h_2 rfl
          refine lv_ior hx hb dX4_carriedBy_32 ?_
          refine lv_topi (fun y_13 ey_13 => ?_)
          have h_14 : z_in 0 63 y_13 := by rw [ey_13]; exact z_or (k := 6) hv1_2 h_12 rfl
          refine lv_istore_n (lv' := [(2, .int y_13), (3, .int v1_3), (0, .ref sc), (1, .int i0)]) hx hb dX4_carriedBy_33 rfl hl (by decide) rfl (fun ls hl => ?_)
          obtain ⟨y_15, ey_15⟩ : ∃ y : Int32, y = v1_3 + 1 := ⟨_, rfl⟩
          have h_16 : z_in 1 6 y_15 := by rw [ey_15]; exact z_add h_2 (z_lit (x := 1) (a := 1) (b := 1) rfl) rfl rfl
          have ty_15 : y_15.toInt = v1_3.toInt + 1 := by rw [ey_15]; exact z_addT h_2 (z_lit (x := 1) (a := 1) (b := 1) rfl) rfl
          refine lv_iinc (v := y_15) (lv' := [(3, .int y_15), (2, .int y_13), (0, .ref sc), (1, .int i0)]) hx hb dX4_carriedBy_34 hl (k := 1) rfl (by rw [ey_15]; rfl) (by decide) rfl (fun ls hl => ?_)
          refine lv_goto (tgt := 4) hx hb dX4_carriedBy_37 (by decide) ?_
          exact ih1 y_13 y_15 _ _ _ h_14 (z_w (c := 0) (d := 6) h_16 rfl) (by omega) hP hD hS (lv_sub hl [0, 1, 2, 3] rfl)
  exact LP1 7 0 0 _ _ _ (z_w (c := 0) (d := 63) (z_lit (x := 0) (a := 0) (b := 0) rfl) rfl) (z_w (c := 0) (d := 6) (z_lit (x := 0) (a := 0) (b := 0) rfl) rfl) (by decide) hP hD hS (lv_sub hl [0, 1, 2, 3] rfl)

set_option maxHeartbeats 8000000 in
set_option maxRecDepth 100000 in
theorem w_Scene_carriedOnes (l : Launch) (D : va_G) (ad : Nat → Nat) (sc : Nat) (scd : Int32) (sch : Int32) (scs : Int32) (scp : Nat) (scpt : ClassId) (scpf : Nat → Int32) (scw : Nat) (scwt : ClassId) (scwf : Nat → Int32) (scc : Nat) (scct : ClassId) (sccf : Nat → Int32) (scf : Nat) (scft : ClassId) (scff : Nat → Int32) (tw : Nat) (twe : Int32) (twm : Int32) (twr : Int32) (twl : Nat) (twln : Int32) (twlc : Nat) (twlct : ClassId) (twlcf : Nat → Int64) (twp : Nat) (twpn : Int32) (twpc : Nat) (twpct : ClassId) (twpcf : Nat → Int64) (twu : Nat) (twun : Int32) (twuc : Nat) (twuct : ClassId) (twucf : Nat → Int64) (twh : Nat) (twht : ClassId) (twhf : Nat → Int32) (tws : Nat) (twst : ClassId) (twsf : Nat → Int32) (twg : Nat) (twgt : ClassId) (twgf : Nat → Int32) (two : Nat) (twot : ClassId) (twof : Nat → Int32) (twd : Nat) (twdt : ClassId) (twdf : Nat → Int32) (twq : Nat) (twqt : ClassId) (twqf : Nat → Int32) (hscpf : z_al 0 4 scpf) (hscwf : z_al 0 4 scwf) (hsccf : z_al (-1) 6 sccf) (hscff : z_al 0 12 scff) (htwm : z_in 0 14 twm) (htwr : z_in 0 5 twr) (htwln : z_in 0 5 twln) (htwpn : z_in 0 7 twpn) (htwun : z_in 0 6 twun) (htwhf : z_al 0 4 twhf) (htwsf : z_al 0 4 twsf) (htwgf : z_al 0 12 twgf) (htwof : z_al 0 6 twof) (htwdf : z_al 0 199 twdf) (htwqf : z_al 0 20 twqf) : z_Mi l yX4_carriedOnes wsX4_carriedOnes { frames := 0, cells := 0, slots := 0, locals := 0 } D ad [.ref sc] [(sc, .inr (4, [.ref tw, .int scd, .int sch, .int scs, .ref scp, .ref scw, .ref scc, .ref scf])), (scp, .inl (scpt, 7, .inl scpf)), (scw, .inl (scwt, 6, .inl scwf)), (scc, .inl (scct, 6, .inl sccf)), (scf, .inl (scft, 6, .inl scff)), (tw, .inr (8, [.ref twl, .ref twp, .ref twu, .int twe, .ref twh, .ref tws, .ref twg, .int twm, .ref two, .ref twd, .ref twq, .int twr])), (twl, .inr (2, [.ref twlc, .int twln])), (twlc, .inl (twlct, 5, .inr (.inl twlcf))), (twp, .inr (2, [.ref twpc, .int twpn])), (twpc, .inl (twpct, 7, .inr (.inl twpcf))), (twu, .inr (2, [.ref twuc, .int twun])), (twuc, .inl (twuct, 6, .inr (.inl twucf))), (twh, .inl (twht, 7, .inl twhf)), (tws, .inl (twst, 6, .inl twsf)), (twg, .inl (twgt, 6, .inl twgf)), (two, .inl (twot, 14, .inl twof)), (twd, .inl (twdt, 14, .inl twdf)), (twq, .inl (twqt, 14, .inl twqf))] [(scpt, .int), (scwt, .int), (scct, .int), (scft, .int), (twlct, .long), (twpct, .long), (twuct, .long), (twht, .int), (twst, .int), (twgt, .int), (twot, .int), (twdt, .int), (twqt, .int)] 0 0 (fun r9 u9 => z_in 0 63 r9 ∧ u9 = ([(sc, .inr (4, [.ref tw, .int scd, .int sch, .int scs, .ref scp, .ref scw, .ref scc, .ref scf])), (scp, .inl (scpt, 7, .inl scpf)), (scw, .inl (scwt, 6, .inl scwf)), (scc, .inl (scct, 6, .inl sccf)), (scf, .inl (scft, 6, .inl scff)), (tw, .inr (8, [.ref twl, .ref twp, .ref twu, .int twe, .ref twh, .ref tws, .ref twg, .int twm, .ref two, .ref twd, .ref twq, .int twr])), (twl, .inr (2, [.ref twlc, .int twln])), (twlc, .inl (twlct, 5, .inr (.inl twlcf))), (twp, .inr (2, [.ref twpc, .int twpn])), (twpc, .inl (twpct, 7, .inr (.inl twpcf))), (twu, .inr (2, [.ref twuc, .int twun])), (twuc, .inl (twuct, 6, .inr (.inl twucf))), (twh, .inl (twht, 7, .inl twhf)), (tws, .inl (twst, 6, .inl twsf)), (twg, .inl (twgt, 6, .inl twgf)), (two, .inl (twot, 14, .inl twof)), (twd, .inl (twdt, 14, .inl twdf)), (twq, .inl (twqt, 14, .inl twqf))], [])) := by
  refine z_ofI (cc := cX4_carriedOnes) (maxL := 3) (rt := .int) (by decide) rfl (Nat.le_of_ble_eq_true rfl) ?_
  intro p e s m below meth c Q A ls hx hb hml hown hts hin hK hP hD hA hE hO hS hl hret
  have hown : s.vm.findClass RX4 = some m.cls := hown
  have hiX4 : ∀ w ∈ wsX40, w ∈ wsX4_carriedOnes := fun _ h9 => List.mem_cons_of_mem _ (List.mem_append_left _ (List.mem_append_left _ (List.mem_append_right _ h9)))
  have hiX8 : ∀ w ∈ wsX80, w ∈ wsX4_carriedOnes := fun _ h9 => List.mem_cons_of_mem _ (List.mem_append_left _ (List.mem_append_right _ h9))
  have hiX2 : ∀ w ∈ wsX20, w ∈ wsX4_carriedOnes := fun _ h9 => List.mem_cons_of_mem _ (List.mem_append_right _ h9)
  have hl : lv_has ls 3 [(0, .ref sc)] := hl
  refine lv_iconst (v := 0) hx hb dX4_carriedOnes_0 (by decide) ?_
  refine lv_istore_n (lv' := [(1, .int 0), (0, .ref sc)]) hx hb dX4_carriedOnes_1 rfl hl (by decide) rfl (fun ls hl => ?_)
  refine lv_iconst (v := 0) hx hb dX4_carriedOnes_2 (by decide) ?_
  refine lv_istore_n (lv' := [(2, .int 0), (1, .int 0), (0, .ref sc)]) hx hb dX4_carriedOnes_3 rfl hl (by decide) rfl (fun ls hl => ?_)
  have LP1 : ∀ (n : Nat) (v1_1 : Int32) (v1_2 : Int32) (H : Heap) (locs : List Loc) (ls : Array Slot), z_in 0 63 v1_1 → z_in 0 6 v1_2 → 7 - v1_2.toInt ≤ (n : Int) → va_P D vwCl [(sc, .inr (4, [.ref tw, .int scd, .int sch, .int scs, .ref scp, .ref scw, .ref scc, .ref scf])), (scp, .inl (scpt, 7, .inl scpf)), (scw, .inl (scwt, 6, .inl scwf)), (scc, .inl (scct, 6, .inl sccf)), (scf, .inl (scft, 6, .inl scff)), (tw, .inr (8, [.ref twl, .ref twp, .ref twu, .int twe, .ref twh, .ref tws, .ref twg, .int twm, .ref two, .ref twd, .ref twq, .int twr])), (twl, .inr (2, [.ref twlc, .int twln])), (twlc, .inl (twlct, 5, .inr (.inl twlcf))), (twp, .inr (2, [.ref twpc, .int twpn])), (twpc, .inl (twpct, 7, .inr (.inl twpcf))), (twu, .inr (2, [.ref twuc, .int twun])), (twuc, .inl (twuct, 6, .inr (.inl twucf))), (twh, .inl (twht, 7, .inl twhf)), (tws, .inl (twst, 6, .inl twsf)), (twg, .inl (twgt, 6, .inl twgf)), (two, .inl (twot, 14, .inl twof)), (twd, .inl (twdt, 14, .inl twdf)), (twq, .inl (twqt, 14, .inl twqf))] H → va_D A [(sc, .inr (4, [.ref tw, .int scd, .int sch, .int scs, .ref scp, .ref scw, .ref scc, .ref scf])), (scp, .inl (scpt, 7, .inl scpf)), (scw, .inl (scwt, 6, .inl scwf)), (scc, .inl (scct, 6, .inl sccf)), (scf, .inl (scft, 6, .inl scff)), (tw, .inr (8, [.ref twl, .ref twp, .ref twu, .int twe, .ref twh, .ref tws, .ref twg, .int twm, .ref two, .ref twd, .ref twq, .int twr])), (twl, .inr (2, [.ref twlc, .int twln])), (twlc, .inl (twlct, 5, .inr (.inl twlcf))), (twp, .inr (2, [.ref twpc, .int twpn])), (twpc, .inl (twpct, 7, .inr (.inl twpcf))), (twu, .inr (2, [.ref twuc, .int twun])), (twuc, .inl (twuct, 6, .inr (.inl twucf))), (twh, .inl (twht, 7, .inl twhf)), (tws, .inl (twst, 6, .inl twsf)), (twg, .inl (twgt, 6, .inl twgf)), (two, .inl (twot, 14, .inl twof)), (twd, .inl (twdt, 14, .inl twdf)), (twq, .inl (twqt, 14, .inl twqf))] → va_S A s.heap H locs → lv_has ls 3 [(2, .int v1_2), (1, .int v1_1), (0, .ref sc)] → W p l e ({ frames := 0, cells := 0, slots := 0, locals := 0 }) s m ([.ref sc] : List Value).toArray below meth c H locs 0 0 Q (F0 m 4 ls []) := by
    intro n
    induction n with
    | zero => intro v1_1 v1_2 H locs ls hv1_1 hv1_2 hn1; exact absurd hn1 (by have q1 := hv1_2.1; have q2 := hv1_2.2; omega)
    | succ n ih1 =>
      intro v1_1 v1_2 H locs ls hv1_1 hv1_2 hn1 hP hD hS hl
      have q1 := hv1_2.1
      have q1' := hv1_2.2
      refine lv_iload_n hx hb dX4_carriedOnes_4 rfl (lv_at hl 0 rfl) ?_
      refine lv_aload_n hx hb dX4_carriedOnes_5 rfl (lv_at hl 2 rfl) ?_
      refine va_get (D := D) (ci := 4) (v := .ref tw) (C := RX4) (T := TX4) (N := 8) hx hb hts hiX4 hown hK hP 0 rfl rfl 0 (by decide) (hts _ (List.mem_of_getElem? (i := 1) rfl)) (fun _ h9 => h9) rfl dX4_carriedOnes_6 ?_
      refine va_get (D := D) (ci := 8) (v := .ref twu) (C := RX8) (T := TX8) (N := 12) hx hb hts hiX8 hown hK hP 5 rfl rfl 2 (by decide) (hts _ (List.mem_of_getElem? (i := 2) rfl)) (fun _ h9 => h9) rfl dX4_carriedOnes_9 ?_
      refine va_get (D := D) (ci := 2) (v := .int twun) (C := RX2) (T := TX2) (N := 2) hx hb hts hiX2 hown hK hP 10 rfl rfl 1 (by decide) (hts _ (List.mem_of_getElem? (i := 3) rfl)) (fun _ h9 => h9) rfl dX4_carriedOnes_12 ?_
      refine lv_icmp_ge (tgt := 40) hx hb dX4_carriedOnes_15 (by decide) (fun c_1 => ?_) (fun c_1 => ?_)
      · skip
        refine lv_iload_n hx hb dX4_carriedOnes_40 rfl (lv_at hl 1 rfl) ?_
        exact hret v1_1 ([(sc, .inr (4, [.ref tw, .int scd, .int sch, .int scs, .ref scp, .ref scw, .ref scc, .ref scf])), (scp, .inl (scpt, 7, .inl scpf)), (scw, .inl (scwt, 6, .inl scwf)), (scc, .inl (scct, 6, .inl sccf)), (scf, .inl (scft, 6, .inl scff)), (tw, .inr (8, [.ref twl, .ref twp, .ref twu, .int twe, .ref twh, .ref tws, .ref twg, .int twm, .ref two, .ref twd, .ref twq, .int twr])), (twl, .inr (2, [.ref twlc, .int twln])), (twlc, .inl (twlct, 5, .inr (.inl twlcf))), (twp, .inr (2, [.ref twpc, .int twpn])), (twpc, .inl (twpct, 7, .inr (.inl twpcf))), (twu, .inr (2, [.ref twuc, .int twun])), (twuc, .inl (twuct, 6, .inr (.inl twucf))), (twh, .inl (twht, 7, .inl twhf)), (tws, .inl (twst, 6, .inl twsf)), (twg, .inl (twgt, 6, .inl twgf)), (two, .inl (twot, 14, .inl twof)), (twd, .inl (twdt, 14, .inl twdf)), (twq, .inl (twqt, 14, .inl twqf))], []) _ _ _ _ dX4_carriedOnes_41 rfl ⟨hv1_1, rfl⟩ hP (hK.sub [] rfl) hD hS
      · skip
        have h_2 : z_in 0 5 v1_2 := z_ltL (Int32.not_le.mp c_1) hv1_2 htwun rfl
        have h_3 : z_in 1 6 twun := z_ltR (Int32.not_le.mp c_1) hv1_2 htwun rfl
        refine lv_aload_n hx hb dX4_carriedOnes_18 rfl (lv_at hl 2 rfl) ?_
        refine va_get (D := D) (ci := 4) (v := .ref scc) (C := RX4) (T := TX4) (N := 8) hx hb hts hiX4 hown hK hP 0 rfl rfl 6 (by decide) (hts _ (List.mem_of_getElem? (i := 4) rfl)) (fun _ h9 => h9) rfl dX4_carriedOnes_19 ?_
        refine lv_iload_n hx hb dX4_carriedOnes_22 rfl (lv_at hl 0 rfl) ?_
        refine va_iald hx hb hK hP 3 2 rfl rfl (z_vp h_2 rfl) dX4_carriedOnes_23 ?_
        refine lv_topi (fun y_4 ey_4 => ?_)
        have h_5 : z_in (-1) 6 y_4 := by rw [ey_4]; exact hsccf _
        refine lv_iconst (v := (-1)) hx hb dX4_carriedOnes_24 (by decide) ?_
        refine lv_icmp_eq (tgt := 34) hx hb dX4_carriedOnes_25 (by decide) (fun c_6 => ?_) (fun c_6 => ?_)
        · skip
          have h_7 : z_in (-1) (-1) y_4 := z_leL (Int32.le_of_eq c_6) h_5 (z_lit (x := (-1)) (a := (-1)) (b := (-1)) rfl) rfl
          obtain ⟨y_8, ey_8⟩ : ∃ y : Int32, y = v1_2 + 1 := ⟨_, rfl⟩
          have h_9 : z_in 1 6 y_8 := by rw [ey_8]; exact z_add h_2 (z_lit (x := 1) (a := 1) (b := 1) rfl) rfl rfl
          have ty_8 : y_8.toInt = v1_2.toInt + 1 := by rw [ey_8]; exact z_addT h_2 (z_lit (x := 1) (a := 1) (b := 1) rfl) rfl
          refine lv_iinc (v := y_8) (lv' := [(2, .int y_8), (1, .int v1_1), (0, .ref sc)]) hx hb dX4_carriedOnes_34 hl (k := 0) rfl (by rw [ey_8]; rfl) (by decide) rfl (fun ls hl => ?_)
          refine lv_goto (tgt := 4) hx hb dX4_carriedOnes_37 (by decide) ?_
          exact ih1 v1_1 y_8 _ _ _ hv1_1 (z_w (c := 0) (d := 6) h_9 rfl) (by omega) hP hD hS (lv_sub hl [0, 1, 2] rfl)
        · skip
          have h_10 : z_in 0 6 y_4 := z_neLo c_6 h_5 (z_lit (x := (-1)) (a := (-1)) (b := (-1)) rfl) rfl
          refine lv_iload_n hx hb dX4_carriedOnes_28 rfl (lv_at hl 1 rfl) ?_
          refine lv_iconst (v := 1) hx hb dX4_carriedOnes_29 (by decide) ?_
          refine lv_iload_n hx hb dX4_carriedOnes_30 rfl (lv_at hl 0 rfl) ?_
          refine lv_ishl hx hb dX4_carriedOnes_31 ?_
          refine lv_topi (fun y_11 ey_11 => ?_)
          have h_12 : z_in 1 32 y_11 := by rw [ey_11]; exact z_shl1 h_2 rfl
          refine lv_ior hx hb dX4_carriedOnes_32 ?_
          refine lv_topi (fun y_13 ey_13 => ?_)
          have h_14 : z_in 0 63 y_13 := by rw [ey_13]; exact z_or (k := 6) hv1_1 h_12 rfl
          refine lv_istore_n (lv' := [(1, .int y_13), (2, .int v1_2), (0, .ref sc)]) hx hb dX4_carriedOnes_33 rfl hl (by decide) rfl (fun ls hl => ?_)
          obtain ⟨y_15, ey_15⟩ : ∃ y : Int32, y = v1_2 + 1 := ⟨_, rfl⟩
          have h_16 : z_in 1 6 y_15 := by rw [ey_15]; exact z_add h_2 (z_lit (x := 1) (a := 1) (b := 1) rfl) rfl rfl
          have ty_15 : y_15.toInt = v1_2.toInt + 1 := by rw [ey_15]; exact z_addT h_2 (z_lit (x := 1) (a := 1) (b := 1) rfl) rfl
          refine lv_iinc (v := y_15) (lv' := [(2, .int y_15), (1, .int y_13), (0, .ref sc)]) hx hb dX4_carriedOnes_34 hl (k := 1) rfl (by rw [ey_15]; rfl) (by decide) rfl (fun ls hl => ?_)
          refine lv_goto (tgt := 4) hx hb dX4_carriedOnes_37 (by decide) ?_
          exact ih1 y_13 y_15 _ _ _ h_14 (z_w (c := 0) (d := 6) h_16 rfl) (by omega) hP hD hS (lv_sub hl [0, 1, 2] rfl)
  exact LP1 7 0 0 _ _ _ (z_w (c := 0) (d := 63) (z_lit (x := 0) (a := 0) (b := 0) rfl) rfl) (z_w (c := 0) (d := 6) (z_lit (x := 0) (a := 0) (b := 0) rfl) rfl) (by decide) hP hD hS (lv_sub hl [0, 1, 2] rfl)

set_option maxHeartbeats 8000000 in
set_option maxRecDepth 100000 in
theorem w_Scene_openersIn (l : Launch) (D : va_G) (ad : Nat → Nat) (sc : Nat) (scd : Int32) (sch : Int32) (scs : Int32) (scp : Nat) (scpt : ClassId) (scpf : Nat → Int32) (scw : Nat) (scwt : ClassId) (scwf : Nat → Int32) (scc : Nat) (scct : ClassId) (sccf : Nat → Int32) (scf : Nat) (scft : ClassId) (scff : Nat → Int32) (tw : Nat) (twe : Int32) (twm : Int32) (twr : Int32) (twl : Nat) (twln : Int32) (twlc : Nat) (twlct : ClassId) (twlcf : Nat → Int64) (twp : Nat) (twpn : Int32) (twpc : Nat) (twpct : ClassId) (twpcf : Nat → Int64) (twu : Nat) (twun : Int32) (twuc : Nat) (twuct : ClassId) (twucf : Nat → Int64) (twh : Nat) (twht : ClassId) (twhf : Nat → Int32) (tws : Nat) (twst : ClassId) (twsf : Nat → Int32) (twg : Nat) (twgt : ClassId) (twgf : Nat → Int32) (two : Nat) (twot : ClassId) (twof : Nat → Int32) (twd : Nat) (twdt : ClassId) (twdf : Nat → Int32) (twq : Nat) (twqt : ClassId) (twqf : Nat → Int32) (i0 : Int32) (i1 : Int32) (hscpf : z_al 0 4 scpf) (hscwf : z_al 0 4 scwf) (hsccf : z_al (-1) 6 sccf) (hscff : z_al 0 12 scff) (htwm : z_in 0 14 twm) (htwr : z_in 0 5 twr) (htwln : z_in 0 5 twln) (htwpn : z_in 0 7 twpn) (htwun : z_in 0 6 twun) (htwhf : z_al 0 4 twhf) (htwsf : z_al 0 4 twsf) (htwgf : z_al 0 12 twgf) (htwof : z_al 0 6 twof) (htwdf : z_al 0 199 twdf) (htwqf : z_al 0 20 twqf) : z_Mi l yX4_openersIn wsX4_openersIn { frames := 1, cells := 0, slots := 0, locals := 22 } D ad [.ref sc, .int i0, .int i1] [(sc, .inr (4, [.ref tw, .int scd, .int sch, .int scs, .ref scp, .ref scw, .ref scc, .ref scf])), (scp, .inl (scpt, 7, .inl scpf)), (scw, .inl (scwt, 6, .inl scwf)), (scc, .inl (scct, 6, .inl sccf)), (scf, .inl (scft, 6, .inl scff)), (tw, .inr (8, [.ref twl, .ref twp, .ref twu, .int twe, .ref twh, .ref tws, .ref twg, .int twm, .ref two, .ref twd, .ref twq, .int twr])), (twl, .inr (2, [.ref twlc, .int twln])), (twlc, .inl (twlct, 5, .inr (.inl twlcf))), (twp, .inr (2, [.ref twpc, .int twpn])), (twpc, .inl (twpct, 7, .inr (.inl twpcf))), (twu, .inr (2, [.ref twuc, .int twun])), (twuc, .inl (twuct, 6, .inr (.inl twucf))), (twh, .inl (twht, 7, .inl twhf)), (tws, .inl (twst, 6, .inl twsf)), (twg, .inl (twgt, 6, .inl twgf)), (two, .inl (twot, 14, .inl twof)), (twd, .inl (twdt, 14, .inl twdf)), (twq, .inl (twqt, 14, .inl twqf))] [(scpt, .int), (scwt, .int), (scct, .int), (scft, .int), (twlct, .long), (twpct, .long), (twuct, .long), (twht, .int), (twst, .int), (twgt, .int), (twot, .int), (twdt, .int), (twqt, .int)] 0 0 (fun r9 u9 => z_in 0 63 r9 ∧ u9 = ([(sc, .inr (4, [.ref tw, .int scd, .int sch, .int scs, .ref scp, .ref scw, .ref scc, .ref scf])), (scp, .inl (scpt, 7, .inl scpf)), (scw, .inl (scwt, 6, .inl scwf)), (scc, .inl (scct, 6, .inl sccf)), (scf, .inl (scft, 6, .inl scff)), (tw, .inr (8, [.ref twl, .ref twp, .ref twu, .int twe, .ref twh, .ref tws, .ref twg, .int twm, .ref two, .ref twd, .ref twq, .int twr])), (twl, .inr (2, [.ref twlc, .int twln])), (twlc, .inl (twlct, 5, .inr (.inl twlcf))), (twp, .inr (2, [.ref twpc, .int twpn])), (twpc, .inl (twpct, 7, .inr (.inl twpcf))), (twu, .inr (2, [.ref twuc, .int twun])), (twuc, .inl (twuct, 6, .inr (.inl twucf))), (twh, .inl (twht, 7, .inl twhf)), (tws, .inl (twst, 6, .inl twsf)), (twg, .inl (twgt, 6, .inl twgf)), (two, .inl (twot, 14, .inl twof)), (twd, .inl (twdt, 14, .inl twdf)), (twq, .inl (twqt, 14, .inl twqf))], [])) := by
  refine z_ofI (cc := cX4_openersIn) (maxL := 5) (rt := .int) (by decide) rfl (Nat.le_of_ble_eq_true rfl) ?_
  intro p e s m below meth c Q A ls hx hb hml hown hts hin hK hP hD hA hE hO hS hl hret
  have hown : s.vm.findClass RX4 = some m.cls := hown
  have hiX4 : ∀ w ∈ wsX40, w ∈ wsX4_openersIn := fun _ h9 => List.mem_cons_of_mem _ (List.mem_append_left _ (List.mem_append_left _ (List.mem_append_right _ h9)))
  have hiX8 : ∀ w ∈ wsX80, w ∈ wsX4_openersIn := fun _ h9 => List.mem_cons_of_mem _ (List.mem_append_left _ (List.mem_append_right _ h9))
  have hiX2 : ∀ w ∈ wsX20, w ∈ wsX4_openersIn := fun _ h9 => List.mem_cons_of_mem _ (List.mem_append_right _ h9)
  have hl : lv_has ls 5 [(0, .ref sc), (1, .int i0), (2, .int i1)] := hl
  refine lv_iconst (v := 0) hx hb dX4_openersIn_0 (by decide) ?_
  refine lv_istore_n (lv' := [(3, .int 0), (0, .ref sc), (1, .int i0), (2, .int i1)]) hx hb dX4_openersIn_1 rfl hl (by decide) rfl (fun ls hl => ?_)
  refine lv_iconst (v := 0) hx hb dX4_openersIn_2 (by decide) ?_
  refine lv_istore (lv' := [(4, .int 0), (3, .int 0), (0, .ref sc), (1, .int i0), (2, .int i1)]) hx hb dX4_openersIn_3 hl (by decide) rfl (fun ls hl => ?_)
  have LP1 : ∀ (n : Nat) (v1_3 : Int32) (v1_4 : Int32) (H : Heap) (locs : List Loc) (ls : Array Slot), z_in 0 63 v1_3 → z_in 0 6 v1_4 → 7 - v1_4.toInt ≤ (n : Int) → va_P D vwCl [(sc, .inr (4, [.ref tw, .int scd, .int sch, .int scs, .ref scp, .ref scw, .ref scc, .ref scf])), (scp, .inl (scpt, 7, .inl scpf)), (scw, .inl (scwt, 6, .inl scwf)), (scc, .inl (scct, 6, .inl sccf)), (scf, .inl (scft, 6, .inl scff)), (tw, .inr (8, [.ref twl, .ref twp, .ref twu, .int twe, .ref twh, .ref tws, .ref twg, .int twm, .ref two, .ref twd, .ref twq, .int twr])), (twl, .inr (2, [.ref twlc, .int twln])), (twlc, .inl (twlct, 5, .inr (.inl twlcf))), (twp, .inr (2, [.ref twpc, .int twpn])), (twpc, .inl (twpct, 7, .inr (.inl twpcf))), (twu, .inr (2, [.ref twuc, .int twun])), (twuc, .inl (twuct, 6, .inr (.inl twucf))), (twh, .inl (twht, 7, .inl twhf)), (tws, .inl (twst, 6, .inl twsf)), (twg, .inl (twgt, 6, .inl twgf)), (two, .inl (twot, 14, .inl twof)), (twd, .inl (twdt, 14, .inl twdf)), (twq, .inl (twqt, 14, .inl twqf))] H → va_D A [(sc, .inr (4, [.ref tw, .int scd, .int sch, .int scs, .ref scp, .ref scw, .ref scc, .ref scf])), (scp, .inl (scpt, 7, .inl scpf)), (scw, .inl (scwt, 6, .inl scwf)), (scc, .inl (scct, 6, .inl sccf)), (scf, .inl (scft, 6, .inl scff)), (tw, .inr (8, [.ref twl, .ref twp, .ref twu, .int twe, .ref twh, .ref tws, .ref twg, .int twm, .ref two, .ref twd, .ref twq, .int twr])), (twl, .inr (2, [.ref twlc, .int twln])), (twlc, .inl (twlct, 5, .inr (.inl twlcf))), (twp, .inr (2, [.ref twpc, .int twpn])), (twpc, .inl (twpct, 7, .inr (.inl twpcf))), (twu, .inr (2, [.ref twuc, .int twun])), (twuc, .inl (twuct, 6, .inr (.inl twucf))), (twh, .inl (twht, 7, .inl twhf)), (tws, .inl (twst, 6, .inl twsf)), (twg, .inl (twgt, 6, .inl twgf)), (two, .inl (twot, 14, .inl twof)), (twd, .inl (twdt, 14, .inl twdf)), (twq, .inl (twqt, 14, .inl twqf))] → va_S A s.heap H locs → lv_has ls 5 [(4, .int v1_4), (3, .int v1_3), (0, .ref sc), (1, .int i0), (2, .int i1)] → W p l e ({ frames := 1, cells := 0, slots := 0, locals := 22 }) s m ([.ref sc, .int i0, .int i1] : List Value).toArray below meth c H locs 0 0 Q (F0 m 5 ls []) := by
    intro n
    induction n with
    | zero => intro v1_3 v1_4 H locs ls hv1_3 hv1_4 hn1; exact absurd hn1 (by have q1 := hv1_4.1; have q2 := hv1_4.2; omega)
    | succ n ih1 =>
      intro v1_3 v1_4 H locs ls hv1_3 hv1_4 hn1 hP hD hS hl
      have q1 := hv1_4.1
      have q1' := hv1_4.2
      refine lv_iload hx hb dX4_openersIn_5 (lv_at hl 0 rfl) ?_
      refine lv_aload_n hx hb dX4_openersIn_7 rfl (lv_at hl 2 rfl) ?_
      refine va_get (D := D) (ci := 4) (v := .ref tw) (C := RX4) (T := TX4) (N := 8) hx hb hts hiX4 hown hK hP 0 rfl rfl 0 (by decide) (hts _ (List.mem_of_getElem? (i := 1) rfl)) (fun _ h9 => h9) rfl dX4_openersIn_8 ?_
      refine va_get (D := D) (ci := 8) (v := .ref twu) (C := RX8) (T := TX8) (N := 12) hx hb hts hiX8 hown hK hP 5 rfl rfl 2 (by decide) (hts _ (List.mem_of_getElem? (i := 2) rfl)) (fun _ h9 => h9) rfl dX4_openersIn_11 ?_
      refine va_get (D := D) (ci := 2) (v := .int twun) (C := RX2) (T := TX2) (N := 2) hx hb hts hiX2 hown hK hP 10 rfl rfl 1 (by decide) (hts _ (List.mem_of_getElem? (i := 3) rfl)) (fun _ h9 => h9) rfl dX4_openersIn_14 ?_
      refine lv_icmp_ge (tgt := 53) hx hb dX4_openersIn_17 (by decide) (fun c_1 => ?_) (fun c_1 => ?_)
      · skip
        refine lv_iload_n hx hb dX4_openersIn_53 rfl (lv_at hl 1 rfl) ?_
        exact hret v1_3 ([(sc, .inr (4, [.ref tw, .int scd, .int sch, .int scs, .ref scp, .ref scw, .ref scc, .ref scf])), (scp, .inl (scpt, 7, .inl scpf)), (scw, .inl (scwt, 6, .inl scwf)), (scc, .inl (scct, 6, .inl sccf)), (scf, .inl (scft, 6, .inl scff)), (tw, .inr (8, [.ref twl, .ref twp, .ref twu, .int twe, .ref twh, .ref tws, .ref twg, .int twm, .ref two, .ref twd, .ref twq, .int twr])), (twl, .inr (2, [.ref twlc, .int twln])), (twlc, .inl (twlct, 5, .inr (.inl twlcf))), (twp, .inr (2, [.ref twpc, .int twpn])), (twpc, .inl (twpct, 7, .inr (.inl twpcf))), (twu, .inr (2, [.ref twuc, .int twun])), (twuc, .inl (twuct, 6, .inr (.inl twucf))), (twh, .inl (twht, 7, .inl twhf)), (tws, .inl (twst, 6, .inl twsf)), (twg, .inl (twgt, 6, .inl twgf)), (two, .inl (twot, 14, .inl twof)), (twd, .inl (twdt, 14, .inl twdf)), (twq, .inl (twqt, 14, .inl twqf))], []) _ _ _ _ dX4_openersIn_54 rfl ⟨hv1_3, rfl⟩ hP (hK.sub [] rfl) hD hS
      · skip
        have h_2 : z_in 0 5 v1_4 := z_ltL (Int32.not_le.mp c_1) hv1_4 htwun rfl
        have h_3 : z_in 1 6 twun := z_ltR (Int32.not_le.mp c_1) hv1_4 htwun rfl
        refine lv_aload_n hx hb dX4_openersIn_20 rfl (lv_at hl 2 rfl) ?_
        refine lv_iload hx hb dX4_openersIn_21 (lv_at hl 0 rfl) ?_
        have hc9 := (w_Scene_whereIs l D ad sc scd sch scs scp scpt scpf scw scwt scwf scc scct sccf scf scft scff tw twe twm twr twl twln twlc twlct twlcf twp twpn twpc twpct twpcf twu twun twuc twuct twucf twh twht twhf tws twst twsf twg twgt twgf two twot twof twd twdt twdf twq twqt twqf v1_4 hscpf hscwf hsccf hscff htwm htwr htwln htwpn (z_w (c := 0) (d := 6) h_3 rfl) htwhf htwsf htwgf htwof htwdf htwqf h_2)
        refine z_calli (w0 := [(sc, .inr (4, [.ref tw, .int scd, .int sch, .int scs, .ref scp, .ref scw, .ref scc, .ref scf])), (scp, .inl (scpt, 7, .inl scpf)), (scw, .inl (scwt, 6, .inl scwf)), (scc, .inl (scct, 6, .inl sccf)), (scf, .inl (scft, 6, .inl scff)), (tw, .inr (8, [.ref twl, .ref twp, .ref twu, .int twe, .ref twh, .ref tws, .ref twg, .int twm, .ref two, .ref twd, .ref twq, .int twr])), (twl, .inr (2, [.ref twlc, .int twln])), (twlc, .inl (twlct, 5, .inr (.inl twlcf))), (twp, .inr (2, [.ref twpc, .int twpn])), (twpc, .inl (twpct, 7, .inr (.inl twpcf))), (twu, .inr (2, [.ref twuc, .int twun])), (twuc, .inl (twuct, 6, .inr (.inl twucf))), (twh, .inl (twht, 7, .inl twhf)), (tws, .inl (twst, 6, .inl twsf)), (twg, .inl (twgt, 6, .inl twgf)), (two, .inl (twot, 14, .inl twof)), (twd, .inl (twdt, 14, .inl twdf)), (twq, .inl (twqt, 14, .inl twqf))]) (wr := []) (va_runV (As := [.int v1_4]) (rest := []) ⟨hx, hb, hml, hown, hts⟩ (hc9 _) (cwV 1 hts gX4_openersIn_X4_whereIs rfl rfl rfl (by decide +kernel) ⟨Nat.le_of_ble_eq_true rfl, Nat.le_of_ble_eq_true rfl⟩) (z_preV hP hD hK hS hA hE hO [0, 1, 2, 3, 4, 5, 6, 7, 8, 9, 10, 11, 12, 13, 14, 15, 16, 17] [0, 1, 2, 3, 4, 5, 6, 7, 8, 9, 10, 11, 12] rfl (by decide +kernel) rfl 0 4 rfl rfl rfl) rfl rfl hl.1 rfl (lv_room (Nat.le_of_ble_eq_true rfl)) dX4_openersIn_23 ⟨Nat.le_of_ble_eq_true rfl, Nat.le_of_ble_eq_true rfl⟩) hP hD hK hS hA [0, 1, 2, 3, 4, 5, 6, 7, 8, 9, 10, 11, 12, 13, 14, 15, 16, 17] [] rfl rfl (by decide +kernel) (by decide +kernel) (fun y_4 u9 H locs hw hP hD hK hS => ?_)
        obtain ⟨h_5, rfl⟩ := hw
        have hP : va_P D vwCl [(sc, .inr (4, [.ref tw, .int scd, .int sch, .int scs, .ref scp, .ref scw, .ref scc, .ref scf])), (scp, .inl (scpt, 7, .inl scpf)), (scw, .inl (scwt, 6, .inl scwf)), (scc, .inl (scct, 6, .inl sccf)), (scf, .inl (scft, 6, .inl scff)), (tw, .inr (8, [.ref twl, .ref twp, .ref twu, .int twe, .ref twh, .ref tws, .ref twg, .int twm, .ref two, .ref twd, .ref twq, .int twr])), (twl, .inr (2, [.ref twlc, .int twln])), (twlc, .inl (twlct, 5, .inr (.inl twlcf))), (twp, .inr (2, [.ref twpc, .int twpn])), (twpc, .inl (twpct, 7, .inr (.inl twpcf))), (twu, .inr (2, [.ref twuc, .int twun])), (twuc, .inl (twuct, 6, .inr (.inl twucf))), (twh, .inl (twht, 7, .inl twhf)), (tws, .inl (twst, 6, .inl twsf)), (twg, .inl (twgt, 6, .inl twgf)), (two, .inl (twot, 14, .inl twof)), (twd, .inl (twdt, 14, .inl twdf)), (twq, .inl (twqt, 14, .inl twqf))] H := hP
        have hD : va_D A [(sc, .inr (4, [.ref tw, .int scd, .int sch, .int scs, .ref scp, .ref scw, .ref scc, .ref scf])), (scp, .inl (scpt, 7, .inl scpf)), (scw, .inl (scwt, 6, .inl scwf)), (scc, .inl (scct, 6, .inl sccf)), (scf, .inl (scft, 6, .inl scff)), (tw, .inr (8, [.ref twl, .ref twp, .ref twu, .int twe, .ref twh, .ref tws, .ref twg, .int twm, .ref two, .ref twd, .ref twq, .int twr])), (twl, .inr (2, [.ref twlc, .int twln])), (twlc, .inl (twlct, 5, .inr (.inl twlcf))), (twp, .inr (2, [.ref twpc, .int twpn])), (twpc, .inl (twpct, 7, .inr (.inl twpcf))), (twu, .inr (2, [.ref twuc, .int twun])), (twuc, .inl (twuct, 6, .inr (.inl twucf))), (twh, .inl (twht, 7, .inl twhf)), (tws, .inl (twst, 6, .inl twsf)), (twg, .inl (twgt, 6, .inl twgf)), (two, .inl (twot, 14, .inl twof)), (twd, .inl (twdt, 14, .inl twdf)), (twq, .inl (twqt, 14, .inl twqf))] := hD
        have hK : va_K D vwCl [(scpt, .int), (scwt, .int), (scct, .int), (scft, .int), (twlct, .long), (twpct, .long), (twuct, .long), (twht, .int), (twst, .int), (twgt, .int), (twot, .int), (twdt, .int), (twqt, .int)] s := hK
        refine W.cs (cells' := 0) (slots' := 0) rfl rfl ?_
        refine W.eq (g2 := F0 m 26 ls (.int y_4 :: [])) rfl ?_
        refine lv_iload_n hx hb dX4_openersIn_26 rfl (lv_at hl 3 rfl) ?_
        refine lv_icmp_ne (tgt := 47) hx hb dX4_openersIn_27 (by decide) (fun c_6 => ?_) (fun c_6 => ?_)
        · skip
          obtain ⟨y_7, ey_7⟩ : ∃ y : Int32, y = v1_4 + 1 := ⟨_, rfl⟩
          have h_8 : z_in 1 6 y_7 := by rw [ey_7]; exact z_add h_2 (z_lit (x := 1) (a := 1) (b := 1) rfl) rfl rfl
          have ty_7 : y_7.toInt = v1_4.toInt + 1 := by rw [ey_7]; exact z_addT h_2 (z_lit (x := 1) (a := 1) (b := 1) rfl) rfl
          refine lv_iinc (v := y_7) (lv' := [(4, .int y_7), (3, .int v1_3), (0, .ref sc), (1, .int i0), (2, .int i1)]) hx hb dX4_openersIn_47 hl (k := 0) rfl (by rw [ey_7]; rfl) (by decide) rfl (fun ls hl => ?_)
          refine lv_goto (tgt := 5) hx hb dX4_openersIn_50 (by decide) ?_
          exact ih1 v1_3 y_7 _ _ _ hv1_3 (z_w (c := 0) (d := 6) h_8 rfl) (by omega) hP hD hS (lv_sub hl [0, 1, 2, 3, 4] rfl)
        · skip
          have h_9 : z_in 0 2147483647 i0 := z_leR (Int32.le_of_eq c_6) h_5 (z_any i0) rfl
          have h_10 : z_in 0 4 i0 := z_leL (Int32.le_of_eq (Eq.symm c_6)) h_9 h_5 rfl
          refine lv_aload_n hx hb dX4_openersIn_30 rfl (lv_at hl 2 rfl) ?_
          refine lv_iload hx hb dX4_openersIn_31 (lv_at hl 0 rfl) ?_
          have hc9 := (w_Scene_reach l D ad sc scd sch scs scp scpt scpf scw scwt scwf scc scct sccf scf scft scff tw twe twm twr twl twln twlc twlct twlcf twp twpn twpc twpct twpcf twu twun twuc twuct twucf twh twht twhf tws twst twsf twg twgt twgf two twot twof twd twdt twdf twq twqt twqf v1_4 hscpf hscwf hsccf hscff htwm htwr htwln htwpn (z_w (c := 0) (d := 6) h_3 rfl) htwhf htwsf htwgf htwof htwdf htwqf h_2)
          refine z_calli (w0 := [(sc, .inr (4, [.ref tw, .int scd, .int sch, .int scs, .ref scp, .ref scw, .ref scc, .ref scf])), (scp, .inl (scpt, 7, .inl scpf)), (scw, .inl (scwt, 6, .inl scwf)), (scc, .inl (scct, 6, .inl sccf)), (scf, .inl (scft, 6, .inl scff)), (tw, .inr (8, [.ref twl, .ref twp, .ref twu, .int twe, .ref twh, .ref tws, .ref twg, .int twm, .ref two, .ref twd, .ref twq, .int twr])), (twl, .inr (2, [.ref twlc, .int twln])), (twlc, .inl (twlct, 5, .inr (.inl twlcf))), (twp, .inr (2, [.ref twpc, .int twpn])), (twpc, .inl (twpct, 7, .inr (.inl twpcf))), (twu, .inr (2, [.ref twuc, .int twun])), (twuc, .inl (twuct, 6, .inr (.inl twucf))), (twh, .inl (twht, 7, .inl twhf)), (tws, .inl (twst, 6, .inl twsf)), (twg, .inl (twgt, 6, .inl twgf)), (two, .inl (twot, 14, .inl twof)), (twd, .inl (twdt, 14, .inl twdf)), (twq, .inl (twqt, 14, .inl twqf))]) (wr := []) (va_runV (As := [.int v1_4]) (rest := []) ⟨hx, hb, hml, hown, hts⟩ (hc9 _) (cwV 1 hts gX4_openersIn_X4_reach rfl rfl rfl (by decide +kernel) ⟨Nat.le_of_ble_eq_true rfl, Nat.le_of_ble_eq_true rfl⟩) (z_preV hP hD hK hS hA hE hO [0, 1, 2, 3, 4, 5, 6, 7, 8, 9, 10, 11, 12, 13, 14, 15, 16, 17] [0, 1, 2, 3, 4, 5, 6, 7, 8, 9, 10, 11, 12] rfl (by decide +kernel) rfl 0 4 rfl rfl rfl) rfl rfl hl.1 rfl (lv_room (Nat.le_of_ble_eq_true rfl)) dX4_openersIn_33 ⟨Nat.le_of_ble_eq_true rfl, Nat.le_of_ble_eq_true rfl⟩) hP hD hK hS hA [0, 1, 2, 3, 4, 5, 6, 7, 8, 9, 10, 11, 12, 13, 14, 15, 16, 17] [] rfl rfl (by decide +kernel) (by decide +kernel) (fun y_11 u9 H locs hw hP hD hK hS => ?_)
          obtain ⟨h_12, rfl⟩ := hw
          have hP : va_P D vwCl [(sc, .inr (4, [.ref tw, .int scd, .int sch, .int scs, .ref scp, .ref scw, .ref scc, .ref scf])), (scp, .inl (scpt, 7, .inl scpf)), (scw, .inl (scwt, 6, .inl scwf)), (scc, .inl (scct, 6, .inl sccf)), (scf, .inl (scft, 6, .inl scff)), (tw, .inr (8, [.ref twl, .ref twp, .ref twu, .int twe, .ref twh, .ref tws, .ref twg, .int twm, .ref two, .ref twd, .ref twq, .int twr])), (twl, .inr (2, [.ref twlc, .int twln])), (twlc, .inl (twlct, 5, .inr (.inl twlcf))), (twp, .inr (2, [.ref twpc, .int twpn])), (twpc, .inl (twpct, 7, .inr (.inl twpcf))), (twu, .inr (2, [.ref twuc, .int twun])), (twuc, .inl (twuct, 6, .inr (.inl twucf))), (twh, .inl (twht, 7, .inl twhf)), (tws, .inl (twst, 6, .inl twsf)), (twg, .inl (twgt, 6, .inl twgf)), (two, .inl (twot, 14, .inl twof)), (twd, .inl (twdt, 14, .inl twdf)), (twq, .inl (twqt, 14, .inl twqf))] H := hP
          have hD : va_D A [(sc, .inr (4, [.ref tw, .int scd, .int sch, .int scs, .ref scp, .ref scw, .ref scc, .ref scf])), (scp, .inl (scpt, 7, .inl scpf)), (scw, .inl (scwt, 6, .inl scwf)), (scc, .inl (scct, 6, .inl sccf)), (scf, .inl (scft, 6, .inl scff)), (tw, .inr (8, [.ref twl, .ref twp, .ref twu, .int twe, .ref twh, .ref tws, .ref twg, .int twm, .ref two, .ref twd, .ref twq, .int twr])), (twl, .inr (2, [.ref twlc, .int twln])), (twlc, .inl (twlct, 5, .inr (.inl twlcf))), (twp, .inr (2, [.ref twpc, .int twpn])), (twpc, .inl (twpct, 7, .inr (.inl twpcf))), (twu, .inr (2, [.ref twuc, .int twun])), (twuc, .inl (twuct, 6, .inr (.inl twucf))), (twh, .inl (twht, 7, .inl twhf)), (tws, .inl (twst, 6, .inl twsf)), (twg, .inl (twgt, 6, .inl twgf)), (two, .inl (twot, 14, .inl twof)), (twd, .inl (twdt, 14, .inl twdf)), (twq, .inl (twqt, 14, .inl twqf))] := hD
          have hK : va_K D vwCl [(scpt, .int), (scwt, .int), (scct, .int), (scft, .int), (twlct, .long), (twpct, .long), (twuct, .long), (twht, .int), (twst, .int), (twgt, .int), (twot, .int), (twdt, .int), (twqt, .int)] s := hK
          refine W.cs (cells' := 0) (slots' := 0) rfl rfl ?_
          refine W.eq (g2 := F0 m 36 ls (.int y_11 :: [])) rfl ?_
          refine lv_iload_n hx hb dX4_openersIn_36 rfl (lv_at hl 4 rfl) ?_
          refine lv_icmp_lt (tgt := 47) hx hb dX4_openersIn_37 (by decide) (fun c_13 => ?_) (fun c_13 => ?_)
          · skip
            have h_14 : z_in 1 2147483647 i1 := z_ltR c_13 h_12 (z_any i1) rfl
            obtain ⟨y_15, ey_15⟩ : ∃ y : Int32, y = v1_4 + 1 := ⟨_, rfl⟩
            have h_16 : z_in 1 6 y_15 := by rw [ey_15]; exact z_add h_2 (z_lit (x := 1) (a := 1) (b := 1) rfl) rfl rfl
            have ty_15 : y_15.toInt = v1_4.toInt + 1 := by rw [ey_15]; exact z_addT h_2 (z_lit (x := 1) (a := 1) (b := 1) rfl) rfl
            refine lv_iinc (v := y_15) (lv' := [(4, .int y_15), (3, .int v1_3), (0, .ref sc), (1, .int i0), (2, .int i1)]) hx hb dX4_openersIn_47 hl (k := 0) rfl (by rw [ey_15]; rfl) (by decide) rfl (fun ls hl => ?_)
            refine lv_goto (tgt := 5) hx hb dX4_openersIn_50 (by decide) ?_
            exact ih1 v1_3 y_15 _ _ _ hv1_3 (z_w (c := 0) (d := 6) h_16 rfl) (by omega) hP hD hS (lv_sub hl [0, 1, 2, 3, 4] rfl)
          · skip
            have h_17 : z_in (-2147483648) 60 i1 := z_leL (Int32.not_lt.mp c_13) (z_any i1) h_12 rfl
            refine lv_iload_n hx hb dX4_openersIn_40 rfl (lv_at hl 1 rfl) ?_
            refine lv_iconst (v := 1) hx hb dX4_openersIn_41 (by decide) ?_
            refine lv_iload hx hb dX4_openersIn_42 (lv_at hl 0 rfl) ?_
            refine lv_ishl hx hb dX4_openersIn_44 ?_
            refine lv_topi (fun y_18 ey_18 => ?_)
            have h_19 : z_in 1 32 y_18 := by rw [ey_18]; exact z_shl1 h_2 rfl
            refine lv_ior hx hb dX4_openersIn_45 ?_
            refine lv_topi (fun y_20 ey_20 => ?_)
            have h_21 : z_in 0 63 y_20 := by rw [ey_20]; exact z_or (k := 6) hv1_3 h_19 rfl
            refine lv_istore_n (lv' := [(3, .int y_20), (4, .int v1_4), (0, .ref sc), (1, .int i0), (2, .int i1)]) hx hb dX4_openersIn_46 rfl hl (by decide) rfl (fun ls hl => ?_)
            obtain ⟨y_22, ey_22⟩ : ∃ y : Int32, y = v1_4 + 1 := ⟨_, rfl⟩
            have h_23 : z_in 1 6 y_22 := by rw [ey_22]; exact z_add h_2 (z_lit (x := 1) (a := 1) (b := 1) rfl) rfl rfl
            have ty_22 : y_22.toInt = v1_4.toInt + 1 := by rw [ey_22]; exact z_addT h_2 (z_lit (x := 1) (a := 1) (b := 1) rfl) rfl
            refine lv_iinc (v := y_22) (lv' := [(4, .int y_22), (3, .int y_20), (0, .ref sc), (1, .int i0), (2, .int i1)]) hx hb dX4_openersIn_47 hl (k := 1) rfl (by rw [ey_22]; rfl) (by decide) rfl (fun ls hl => ?_)
            refine lv_goto (tgt := 5) hx hb dX4_openersIn_50 (by decide) ?_
            exact ih1 y_20 y_22 _ _ _ h_21 (z_w (c := 0) (d := 6) h_23 rfl) (by omega) hP hD hS (lv_sub hl [0, 1, 2, 3, 4] rfl)
  exact LP1 7 0 0 _ _ _ (z_w (c := 0) (d := 63) (z_lit (x := 0) (a := 0) (b := 0) rfl) rfl) (z_w (c := 0) (d := 6) (z_lit (x := 0) (a := 0) (b := 0) rfl) rfl) (by decide) hP hD hS (lv_sub hl [0, 1, 2, 3, 4] rfl)

set_option maxHeartbeats 8000000 in
set_option maxRecDepth 100000 in
theorem w_Scene_openersFor (l : Launch) (D : va_G) (ad : Nat → Nat) (sc : Nat) (scd : Int32) (sch : Int32) (scs : Int32) (scp : Nat) (scpt : ClassId) (scpf : Nat → Int32) (scw : Nat) (scwt : ClassId) (scwf : Nat → Int32) (scc : Nat) (scct : ClassId) (sccf : Nat → Int32) (scf : Nat) (scft : ClassId) (scff : Nat → Int32) (tw : Nat) (twe : Int32) (twm : Int32) (twr : Int32) (twl : Nat) (twln : Int32) (twlc : Nat) (twlct : ClassId) (twlcf : Nat → Int64) (twp : Nat) (twpn : Int32) (twpc : Nat) (twpct : ClassId) (twpcf : Nat → Int64) (twu : Nat) (twun : Int32) (twuc : Nat) (twuct : ClassId) (twucf : Nat → Int64) (twh : Nat) (twht : ClassId) (twhf : Nat → Int32) (tws : Nat) (twst : ClassId) (twsf : Nat → Int32) (twg : Nat) (twgt : ClassId) (twgf : Nat → Int32) (two : Nat) (twot : ClassId) (twof : Nat → Int32) (twd : Nat) (twdt : ClassId) (twdf : Nat → Int32) (twq : Nat) (twqt : ClassId) (twqf : Nat → Int32) (i0 : Int32) (hscpf : z_al 0 4 scpf) (hscwf : z_al 0 4 scwf) (hsccf : z_al (-1) 6 sccf) (hscff : z_al 0 12 scff) (htwm : z_in 0 14 twm) (htwr : z_in 0 5 twr) (htwln : z_in 0 5 twln) (htwpn : z_in 0 7 twpn) (htwun : z_in 0 6 twun) (htwhf : z_al 0 4 twhf) (htwsf : z_al 0 4 twsf) (htwgf : z_al 0 12 twgf) (htwof : z_al 0 6 twof) (htwdf : z_al 0 199 twdf) (htwqf : z_al 0 20 twqf) (hi0 : z_in 0 6 i0) : z_Mi l yX4_openersFor wsX4_openersFor { frames := 2, cells := 0, slots := 0, locals := 46 } D ad [.ref sc, .int i0] [(sc, .inr (4, [.ref tw, .int scd, .int sch, .int scs, .ref scp, .ref scw, .ref scc, .ref scf])), (scp, .inl (scpt, 7, .inl scpf)), (scw, .inl (scwt, 6, .inl scwf)), (scc, .inl (scct, 6, .inl sccf)), (scf, .inl (scft, 6, .inl scff)), (tw, .inr (8, [.ref twl, .ref twp, .ref twu, .int twe, .ref twh, .ref tws, .ref twg, .int twm, .ref two, .ref twd, .ref twq, .int twr])), (twl, .inr (2, [.ref twlc, .int twln])), (twlc, .inl (twlct, 5, .inr (.inl twlcf))), (twp, .inr (2, [.ref twpc, .int twpn])), (twpc, .inl (twpct, 7, .inr (.inl twpcf))), (twu, .inr (2, [.ref twuc, .int twun])), (twuc, .inl (twuct, 6, .inr (.inl twucf))), (twh, .inl (twht, 7, .inl twhf)), (tws, .inl (twst, 6, .inl twsf)), (twg, .inl (twgt, 6, .inl twgf)), (two, .inl (twot, 14, .inl twof)), (twd, .inl (twdt, 14, .inl twdf)), (twq, .inl (twqt, 14, .inl twqf))] [(scpt, .int), (scwt, .int), (scct, .int), (scft, .int), (twlct, .long), (twpct, .long), (twuct, .long), (twht, .int), (twst, .int), (twgt, .int), (twot, .int), (twdt, .int), (twqt, .int)] 0 0 (fun r9 u9 => z_in 0 63 r9 ∧ u9 = ([(sc, .inr (4, [.ref tw, .int scd, .int sch, .int scs, .ref scp, .ref scw, .ref scc, .ref scf])), (scp, .inl (scpt, 7, .inl scpf)), (scw, .inl (scwt, 6, .inl scwf)), (scc, .inl (scct, 6, .inl sccf)), (scf, .inl (scft, 6, .inl scff)), (tw, .inr (8, [.ref twl, .ref twp, .ref twu, .int twe, .ref twh, .ref tws, .ref twg, .int twm, .ref two, .ref twd, .ref twq, .int twr])), (twl, .inr (2, [.ref twlc, .int twln])), (twlc, .inl (twlct, 5, .inr (.inl twlcf))), (twp, .inr (2, [.ref twpc, .int twpn])), (twpc, .inl (twpct, 7, .inr (.inl twpcf))), (twu, .inr (2, [.ref twuc, .int twun])), (twuc, .inl (twuct, 6, .inr (.inl twucf))), (twh, .inl (twht, 7, .inl twhf)), (tws, .inl (twst, 6, .inl twsf)), (twg, .inl (twgt, 6, .inl twgf)), (two, .inl (twot, 14, .inl twof)), (twd, .inl (twdt, 14, .inl twdf)), (twq, .inl (twqt, 14, .inl twqf))], [])) := by
  refine z_ofI (cc := cX4_openersFor) (maxL := 2) (rt := .int) (by decide) rfl (Nat.le_of_ble_eq_true rfl) ?_
  intro p e s m below meth c Q A ls hx hb hml hown hts hin hK hP hD hA hE hO hS hl hret
  have hown : s.vm.findClass RX4 = some m.cls := hown
  have hiX4 : ∀ w ∈ wsX40, w ∈ wsX4_openersFor := fun _ h9 => List.mem_cons_of_mem _ (List.mem_append_left _ (List.mem_append_left _ (List.mem_append_right _ h9)))
  have hiX8 : ∀ w ∈ wsX80, w ∈ wsX4_openersFor := fun _ h9 => List.mem_cons_of_mem _ (List.mem_append_left _ (List.mem_append_right _ h9))
  have hiX2 : ∀ w ∈ wsX20, w ∈ wsX4_openersFor := fun _ h9 => List.mem_cons_of_mem _ (List.mem_append_right _ h9)
  have hl : lv_has ls 2 [(0, .ref sc), (1, .int i0)] := hl
  refine lv_aload_n hx hb dX4_openersFor_0 rfl (lv_at hl 0 rfl) ?_
  refine lv_aload_n hx hb dX4_openersFor_1 rfl (lv_at hl 0 rfl) ?_
  refine va_get (D := D) (ci := 4) (v := .ref scp) (C := RX4) (T := TX4) (N := 8) hx hb hts hiX4 hown hK hP 0 rfl rfl 4 (by decide) (hts _ (List.mem_of_getElem? (i := 1) rfl)) (fun _ h9 => h9) rfl dX4_openersFor_2 ?_
  refine lv_iload_n hx hb dX4_openersFor_5 rfl (lv_at hl 1 rfl) ?_
  refine va_iald hx hb hK hP 1 0 rfl rfl (z_vp hi0 rfl) dX4_openersFor_6 ?_
  refine lv_topi (fun y_1 ey_1 => ?_)
  have h_2 : z_in 0 4 y_1 := by rw [ey_1]; exact hscpf _
  refine lv_aload_n hx hb dX4_openersFor_7 rfl (lv_at hl 0 rfl) ?_
  refine lv_iload_n hx hb dX4_openersFor_8 rfl (lv_at hl 1 rfl) ?_
  have hc9 := (w_Scene_soonest l D ad sc scd sch scs scp scpt scpf scw scwt scwf scc scct sccf scf scft scff tw twe twm twr twl twln twlc twlct twlcf twp twpn twpc twpct twpcf twu twun twuc twuct twucf twh twht twhf tws twst twsf twg twgt twgf two twot twof twd twdt twdf twq twqt twqf i0 hscpf hscwf hsccf hscff htwm htwr htwln htwpn htwun htwhf htwsf htwgf htwof htwdf htwqf)
  refine z_calli (w0 := [(sc, .inr (4, [.ref tw, .int scd, .int sch, .int scs, .ref scp, .ref scw, .ref scc, .ref scf])), (scp, .inl (scpt, 7, .inl scpf)), (scw, .inl (scwt, 6, .inl scwf)), (scc, .inl (scct, 6, .inl sccf)), (scf, .inl (scft, 6, .inl scff)), (tw, .inr (8, [.ref twl, .ref twp, .ref twu, .int twe, .ref twh, .ref tws, .ref twg, .int twm, .ref two, .ref twd, .ref twq, .int twr])), (twl, .inr (2, [.ref twlc, .int twln])), (twlc, .inl (twlct, 5, .inr (.inl twlcf))), (twp, .inr (2, [.ref twpc, .int twpn])), (twpc, .inl (twpct, 7, .inr (.inl twpcf))), (twu, .inr (2, [.ref twuc, .int twun])), (twuc, .inl (twuct, 6, .inr (.inl twucf))), (twh, .inl (twht, 7, .inl twhf)), (tws, .inl (twst, 6, .inl twsf)), (twg, .inl (twgt, 6, .inl twgf)), (two, .inl (twot, 14, .inl twof)), (twd, .inl (twdt, 14, .inl twdf)), (twq, .inl (twqt, 14, .inl twqf))]) (wr := []) (va_runV (As := [.int i0]) (rest := [.int y_1, .ref sc]) ⟨hx, hb, hml, hown, hts⟩ (hc9 _) (cwV 1 hts gX4_openersFor_X4_soonest rfl rfl rfl (by decide +kernel) ⟨Nat.le_of_ble_eq_true rfl, Nat.le_of_ble_eq_true rfl⟩) (z_preV hP hD hK hS hA hE hO [0, 1, 2, 3, 4, 5, 6, 7, 8, 9, 10, 11, 12, 13, 14, 15, 16, 17] [0, 1, 2, 3, 4, 5, 6, 7, 8, 9, 10, 11, 12] rfl (by decide +kernel) rfl 0 4 rfl rfl rfl) rfl rfl hl.1 rfl (lv_room (Nat.le_of_ble_eq_true rfl)) dX4_openersFor_9 ⟨Nat.le_of_ble_eq_true rfl, Nat.le_of_ble_eq_true rfl⟩) hP hD hK hS hA [0, 1, 2, 3, 4, 5, 6, 7, 8, 9, 10, 11, 12, 13, 14, 15, 16, 17] [] rfl rfl (by decide +kernel) (by decide +kernel) (fun y_3 u9 H locs hw hP hD hK hS => ?_)
  obtain ⟨h_4, rfl⟩ := hw
  have hP : va_P D vwCl [(sc, .inr (4, [.ref tw, .int scd, .int sch, .int scs, .ref scp, .ref scw, .ref scc, .ref scf])), (scp, .inl (scpt, 7, .inl scpf)), (scw, .inl (scwt, 6, .inl scwf)), (scc, .inl (scct, 6, .inl sccf)), (scf, .inl (scft, 6, .inl scff)), (tw, .inr (8, [.ref twl, .ref twp, .ref twu, .int twe, .ref twh, .ref tws, .ref twg, .int twm, .ref two, .ref twd, .ref twq, .int twr])), (twl, .inr (2, [.ref twlc, .int twln])), (twlc, .inl (twlct, 5, .inr (.inl twlcf))), (twp, .inr (2, [.ref twpc, .int twpn])), (twpc, .inl (twpct, 7, .inr (.inl twpcf))), (twu, .inr (2, [.ref twuc, .int twun])), (twuc, .inl (twuct, 6, .inr (.inl twucf))), (twh, .inl (twht, 7, .inl twhf)), (tws, .inl (twst, 6, .inl twsf)), (twg, .inl (twgt, 6, .inl twgf)), (two, .inl (twot, 14, .inl twof)), (twd, .inl (twdt, 14, .inl twdf)), (twq, .inl (twqt, 14, .inl twqf))] H := hP
  have hD : va_D A [(sc, .inr (4, [.ref tw, .int scd, .int sch, .int scs, .ref scp, .ref scw, .ref scc, .ref scf])), (scp, .inl (scpt, 7, .inl scpf)), (scw, .inl (scwt, 6, .inl scwf)), (scc, .inl (scct, 6, .inl sccf)), (scf, .inl (scft, 6, .inl scff)), (tw, .inr (8, [.ref twl, .ref twp, .ref twu, .int twe, .ref twh, .ref tws, .ref twg, .int twm, .ref two, .ref twd, .ref twq, .int twr])), (twl, .inr (2, [.ref twlc, .int twln])), (twlc, .inl (twlct, 5, .inr (.inl twlcf))), (twp, .inr (2, [.ref twpc, .int twpn])), (twpc, .inl (twpct, 7, .inr (.inl twpcf))), (twu, .inr (2, [.ref twuc, .int twun])), (twuc, .inl (twuct, 6, .inr (.inl twucf))), (twh, .inl (twht, 7, .inl twhf)), (tws, .inl (twst, 6, .inl twsf)), (twg, .inl (twgt, 6, .inl twgf)), (two, .inl (twot, 14, .inl twof)), (twd, .inl (twdt, 14, .inl twdf)), (twq, .inl (twqt, 14, .inl twqf))] := hD
  have hK : va_K D vwCl [(scpt, .int), (scwt, .int), (scct, .int), (scft, .int), (twlct, .long), (twpct, .long), (twuct, .long), (twht, .int), (twst, .int), (twgt, .int), (twot, .int), (twdt, .int), (twqt, .int)] s := hK
  refine W.cs (cells' := 0) (slots' := 0) rfl rfl ?_
  refine W.eq (g2 := F0 m 12 ls (.int y_3 :: [.int y_1, .ref sc])) rfl ?_
  have hc9 := (w_Scene_openersIn l D ad sc scd sch scs scp scpt scpf scw scwt scwf scc scct sccf scf scft scff tw twe twm twr twl twln twlc twlct twlcf twp twpn twpc twpct twpcf twu twun twuc twuct twucf twh twht twhf tws twst twsf twg twgt twgf two twot twof twd twdt twdf twq twqt twqf y_1 y_3 hscpf hscwf hsccf hscff htwm htwr htwln htwpn htwun htwhf htwsf htwgf htwof htwdf htwqf)
  refine z_calli (w0 := [(sc, .inr (4, [.ref tw, .int scd, .int sch, .int scs, .ref scp, .ref scw, .ref scc, .ref scf])), (scp, .inl (scpt, 7, .inl scpf)), (scw, .inl (scwt, 6, .inl scwf)), (scc, .inl (scct, 6, .inl sccf)), (scf, .inl (scft, 6, .inl scff)), (tw, .inr (8, [.ref twl, .ref twp, .ref twu, .int twe, .ref twh, .ref tws, .ref twg, .int twm, .ref two, .ref twd, .ref twq, .int twr])), (twl, .inr (2, [.ref twlc, .int twln])), (twlc, .inl (twlct, 5, .inr (.inl twlcf))), (twp, .inr (2, [.ref twpc, .int twpn])), (twpc, .inl (twpct, 7, .inr (.inl twpcf))), (twu, .inr (2, [.ref twuc, .int twun])), (twuc, .inl (twuct, 6, .inr (.inl twucf))), (twh, .inl (twht, 7, .inl twhf)), (tws, .inl (twst, 6, .inl twsf)), (twg, .inl (twgt, 6, .inl twgf)), (two, .inl (twot, 14, .inl twof)), (twd, .inl (twdt, 14, .inl twdf)), (twq, .inl (twqt, 14, .inl twqf))]) (wr := []) (va_runV (As := [.int y_1, .int y_3]) (rest := []) ⟨hx, hb, hml, hown, hts⟩ (hc9 _) (cwV 2 hts gX4_openersFor_X4_openersIn rfl rfl rfl (by decide +kernel) ⟨Nat.le_of_ble_eq_true rfl, Nat.le_of_ble_eq_true rfl⟩) (z_preV hP hD hK hS hA hE hO [0, 1, 2, 3, 4, 5, 6, 7, 8, 9, 10, 11, 12, 13, 14, 15, 16, 17] [0, 1, 2, 3, 4, 5, 6, 7, 8, 9, 10, 11, 12] rfl (by decide +kernel) rfl 0 4 rfl rfl rfl) rfl rfl hl.1 rfl (lv_room (Nat.le_of_ble_eq_true rfl)) dX4_openersFor_12 ⟨Nat.le_of_ble_eq_true rfl, Nat.le_of_ble_eq_true rfl⟩) hP hD hK hS hA [0, 1, 2, 3, 4, 5, 6, 7, 8, 9, 10, 11, 12, 13, 14, 15, 16, 17] [] rfl rfl (by decide +kernel) (by decide +kernel) (fun y_5 u9 H locs hw hP hD hK hS => ?_)
  obtain ⟨h_6, rfl⟩ := hw
  have hP : va_P D vwCl [(sc, .inr (4, [.ref tw, .int scd, .int sch, .int scs, .ref scp, .ref scw, .ref scc, .ref scf])), (scp, .inl (scpt, 7, .inl scpf)), (scw, .inl (scwt, 6, .inl scwf)), (scc, .inl (scct, 6, .inl sccf)), (scf, .inl (scft, 6, .inl scff)), (tw, .inr (8, [.ref twl, .ref twp, .ref twu, .int twe, .ref twh, .ref tws, .ref twg, .int twm, .ref two, .ref twd, .ref twq, .int twr])), (twl, .inr (2, [.ref twlc, .int twln])), (twlc, .inl (twlct, 5, .inr (.inl twlcf))), (twp, .inr (2, [.ref twpc, .int twpn])), (twpc, .inl (twpct, 7, .inr (.inl twpcf))), (twu, .inr (2, [.ref twuc, .int twun])), (twuc, .inl (twuct, 6, .inr (.inl twucf))), (twh, .inl (twht, 7, .inl twhf)), (tws, .inl (twst, 6, .inl twsf)), (twg, .inl (twgt, 6, .inl twgf)), (two, .inl (twot, 14, .inl twof)), (twd, .inl (twdt, 14, .inl twdf)), (twq, .inl (twqt, 14, .inl twqf))] H := hP
  have hD : va_D A [(sc, .inr (4, [.ref tw, .int scd, .int sch, .int scs, .ref scp, .ref scw, .ref scc, .ref scf])), (scp, .inl (scpt, 7, .inl scpf)), (scw, .inl (scwt, 6, .inl scwf)), (scc, .inl (scct, 6, .inl sccf)), (scf, .inl (scft, 6, .inl scff)), (tw, .inr (8, [.ref twl, .ref twp, .ref twu, .int twe, .ref twh, .ref tws, .ref twg, .int twm, .ref two, .ref twd, .ref twq, .int twr])), (twl, .inr (2, [.ref twlc, .int twln])), (twlc, .inl (twlct, 5, .inr (.inl twlcf))), (twp, .inr (2, [.ref twpc, .int twpn])), (twpc, .inl (twpct, 7, .inr (.inl twpcf))), (twu, .inr (2, [.ref twuc, .int twun])), (twuc, .inl (twuct, 6, .inr (.inl twucf))), (twh, .inl (twht, 7, .inl twhf)), (tws, .inl (twst, 6, .inl twsf)), (twg, .inl (twgt, 6, .inl twgf)), (two, .inl (twot, 14, .inl twof)), (twd, .inl (twdt, 14, .inl twdf)), (twq, .inl (twqt, 14, .inl twqf))] := hD
  have hK : va_K D vwCl [(scpt, .int), (scwt, .int), (scct, .int), (scft, .int), (twlct, .long), (twpct, .long), (twuct, .long), (twht, .int), (twst, .int), (twgt, .int), (twot, .int), (twdt, .int), (twqt, .int)] s := hK
  refine W.cs (cells' := 0) (slots' := 0) rfl rfl ?_
  refine W.eq (g2 := F0 m 15 ls (.int y_5 :: [])) rfl ?_
  exact hret y_5 ([(sc, .inr (4, [.ref tw, .int scd, .int sch, .int scs, .ref scp, .ref scw, .ref scc, .ref scf])), (scp, .inl (scpt, 7, .inl scpf)), (scw, .inl (scwt, 6, .inl scwf)), (scc, .inl (scct, 6, .inl sccf)), (scf, .inl (scft, 6, .inl scff)), (tw, .inr (8, [.ref twl, .ref twp, .ref twu, .int twe, .ref twh, .ref tws, .ref twg, .int twm, .ref two, .ref twd, .ref twq, .int twr])), (twl, .inr (2, [.ref twlc, .int twln])), (twlc, .inl (twlct, 5, .inr (.inl twlcf))), (twp, .inr (2, [.ref twpc, .int twpn])), (twpc, .inl (twpct, 7, .inr (.inl twpcf))), (twu, .inr (2, [.ref twuc, .int twun])), (twuc, .inl (twuct, 6, .inr (.inl twucf))), (twh, .inl (twht, 7, .inl twhf)), (tws, .inl (twst, 6, .inl twsf)), (twg, .inl (twgt, 6, .inl twgf)), (two, .inl (twot, 14, .inl twof)), (twd, .inl (twdt, 14, .inl twdf)), (twq, .inl (twqt, 14, .inl twqf))], []) _ _ _ _ dX4_openersFor_15 rfl ⟨h_6, rfl⟩ hP (hK.sub [] rfl) hD hS

set_option maxHeartbeats 8000000 in
set_option maxRecDepth 100000 in
theorem w_Scene_feltIn (l : Launch) (D : va_G) (ad : Nat → Nat) (sc : Nat) (scd : Int32) (sch : Int32) (scs : Int32) (scp : Nat) (scpt : ClassId) (scpf : Nat → Int32) (scw : Nat) (scwt : ClassId) (scwf : Nat → Int32) (scc : Nat) (scct : ClassId) (sccf : Nat → Int32) (scf : Nat) (scft : ClassId) (scff : Nat → Int32) (tw : Nat) (twe : Int32) (twm : Int32) (twr : Int32) (twl : Nat) (twln : Int32) (twlc : Nat) (twlct : ClassId) (twlcf : Nat → Int64) (twp : Nat) (twpn : Int32) (twpc : Nat) (twpct : ClassId) (twpcf : Nat → Int64) (twu : Nat) (twun : Int32) (twuc : Nat) (twuct : ClassId) (twucf : Nat → Int64) (twh : Nat) (twht : ClassId) (twhf : Nat → Int32) (tws : Nat) (twst : ClassId) (twsf : Nat → Int32) (twg : Nat) (twgt : ClassId) (twgf : Nat → Int32) (two : Nat) (twot : ClassId) (twof : Nat → Int32) (twd : Nat) (twdt : ClassId) (twdf : Nat → Int32) (twq : Nat) (twqt : ClassId) (twqf : Nat → Int32) (i0 : Int32) (i1 : Int32) (hscpf : z_al 0 4 scpf) (hscwf : z_al 0 4 scwf) (hsccf : z_al (-1) 6 sccf) (hscff : z_al 0 12 scff) (htwm : z_in 0 14 twm) (htwr : z_in 0 5 twr) (htwln : z_in 0 5 twln) (htwpn : z_in 0 7 twpn) (htwun : z_in 0 6 twun) (htwhf : z_al 0 4 twhf) (htwsf : z_al 0 4 twsf) (htwgf : z_al 0 12 twgf) (htwof : z_al 0 6 twof) (htwdf : z_al 0 199 twdf) (htwqf : z_al 0 20 twqf) : z_Mi l yX4_feltIn wsX4_feltIn { frames := 2, cells := 0, slots := 0, locals := 44 } D ad [.ref sc, .int i0, .int i1] [(sc, .inr (4, [.ref tw, .int scd, .int sch, .int scs, .ref scp, .ref scw, .ref scc, .ref scf])), (scp, .inl (scpt, 7, .inl scpf)), (scw, .inl (scwt, 6, .inl scwf)), (scc, .inl (scct, 6, .inl sccf)), (scf, .inl (scft, 6, .inl scff)), (tw, .inr (8, [.ref twl, .ref twp, .ref twu, .int twe, .ref twh, .ref tws, .ref twg, .int twm, .ref two, .ref twd, .ref twq, .int twr])), (twl, .inr (2, [.ref twlc, .int twln])), (twlc, .inl (twlct, 5, .inr (.inl twlcf))), (twp, .inr (2, [.ref twpc, .int twpn])), (twpc, .inl (twpct, 7, .inr (.inl twpcf))), (twu, .inr (2, [.ref twuc, .int twun])), (twuc, .inl (twuct, 6, .inr (.inl twucf))), (twh, .inl (twht, 7, .inl twhf)), (tws, .inl (twst, 6, .inl twsf)), (twg, .inl (twgt, 6, .inl twgf)), (two, .inl (twot, 14, .inl twof)), (twd, .inl (twdt, 14, .inl twdf)), (twq, .inl (twqt, 14, .inl twqf))] [(scpt, .int), (scwt, .int), (scct, .int), (scft, .int), (twlct, .long), (twpct, .long), (twuct, .long), (twht, .int), (twst, .int), (twgt, .int), (twot, .int), (twdt, .int), (twqt, .int)] 0 0 (fun r9 u9 => z_in 0 127 r9 ∧ u9 = ([(sc, .inr (4, [.ref tw, .int scd, .int sch, .int scs, .ref scp, .ref scw, .ref scc, .ref scf])), (scp, .inl (scpt, 7, .inl scpf)), (scw, .inl (scwt, 6, .inl scwf)), (scc, .inl (scct, 6, .inl sccf)), (scf, .inl (scft, 6, .inl scff)), (tw, .inr (8, [.ref twl, .ref twp, .ref twu, .int twe, .ref twh, .ref tws, .ref twg, .int twm, .ref two, .ref twd, .ref twq, .int twr])), (twl, .inr (2, [.ref twlc, .int twln])), (twlc, .inl (twlct, 5, .inr (.inl twlcf))), (twp, .inr (2, [.ref twpc, .int twpn])), (twpc, .inl (twpct, 7, .inr (.inl twpcf))), (twu, .inr (2, [.ref twuc, .int twun])), (twuc, .inl (twuct, 6, .inr (.inl twucf))), (twh, .inl (twht, 7, .inl twhf)), (tws, .inl (twst, 6, .inl twsf)), (twg, .inl (twgt, 6, .inl twgf)), (two, .inl (twot, 14, .inl twof)), (twd, .inl (twdt, 14, .inl twdf)), (twq, .inl (twqt, 14, .inl twqf))], [])) := by
  refine z_ofI (cc := cX4_feltIn) (maxL := 5) (rt := .int) (by decide) rfl (Nat.le_of_ble_eq_true rfl) ?_
  intro p e s m below meth c Q A ls hx hb hml hown hts hin hK hP hD hA hE hO hS hl hret
  have hown : s.vm.findClass RX4 = some m.cls := hown
  have hiX4 : ∀ w ∈ wsX40, w ∈ wsX4_feltIn := fun _ h9 => List.mem_cons_of_mem _ (List.mem_append_left _ (List.mem_append_left _ (List.mem_append_right _ h9)))
  have hiX8 : ∀ w ∈ wsX80, w ∈ wsX4_feltIn := fun _ h9 => List.mem_cons_of_mem _ (List.mem_append_left _ (List.mem_append_right _ h9))
  have hiX2 : ∀ w ∈ wsX20, w ∈ wsX4_feltIn := fun _ h9 => List.mem_cons_of_mem _ (List.mem_append_right _ h9)
  have hl : lv_has ls 5 [(0, .ref sc), (1, .int i0), (2, .int i1)] := hl
  refine lv_iconst (v := 0) hx hb dX4_feltIn_0 (by decide) ?_
  refine lv_istore_n (lv' := [(3, .int 0), (0, .ref sc), (1, .int i0), (2, .int i1)]) hx hb dX4_feltIn_1 rfl hl (by decide) rfl (fun ls hl => ?_)
  refine lv_iconst (v := 0) hx hb dX4_feltIn_2 (by decide) ?_
  refine lv_istore (lv' := [(4, .int 0), (3, .int 0), (0, .ref sc), (1, .int i0), (2, .int i1)]) hx hb dX4_feltIn_3 hl (by decide) rfl (fun ls hl => ?_)
  have LP1 : ∀ (n : Nat) (v1_3 : Int32) (v1_4 : Int32) (H : Heap) (locs : List Loc) (ls : Array Slot), z_in 0 127 v1_3 → z_in 0 7 v1_4 → 8 - v1_4.toInt ≤ (n : Int) → va_P D vwCl [(sc, .inr (4, [.ref tw, .int scd, .int sch, .int scs, .ref scp, .ref scw, .ref scc, .ref scf])), (scp, .inl (scpt, 7, .inl scpf)), (scw, .inl (scwt, 6, .inl scwf)), (scc, .inl (scct, 6, .inl sccf)), (scf, .inl (scft, 6, .inl scff)), (tw, .inr (8, [.ref twl, .ref twp, .ref twu, .int twe, .ref twh, .ref tws, .ref twg, .int twm, .ref two, .ref twd, .ref twq, .int twr])), (twl, .inr (2, [.ref twlc, .int twln])), (twlc, .inl (twlct, 5, .inr (.inl twlcf))), (twp, .inr (2, [.ref twpc, .int twpn])), (twpc, .inl (twpct, 7, .inr (.inl twpcf))), (twu, .inr (2, [.ref twuc, .int twun])), (twuc, .inl (twuct, 6, .inr (.inl twucf))), (twh, .inl (twht, 7, .inl twhf)), (tws, .inl (twst, 6, .inl twsf)), (twg, .inl (twgt, 6, .inl twgf)), (two, .inl (twot, 14, .inl twof)), (twd, .inl (twdt, 14, .inl twdf)), (twq, .inl (twqt, 14, .inl twqf))] H → va_D A [(sc, .inr (4, [.ref tw, .int scd, .int sch, .int scs, .ref scp, .ref scw, .ref scc, .ref scf])), (scp, .inl (scpt, 7, .inl scpf)), (scw, .inl (scwt, 6, .inl scwf)), (scc, .inl (scct, 6, .inl sccf)), (scf, .inl (scft, 6, .inl scff)), (tw, .inr (8, [.ref twl, .ref twp, .ref twu, .int twe, .ref twh, .ref tws, .ref twg, .int twm, .ref two, .ref twd, .ref twq, .int twr])), (twl, .inr (2, [.ref twlc, .int twln])), (twlc, .inl (twlct, 5, .inr (.inl twlcf))), (twp, .inr (2, [.ref twpc, .int twpn])), (twpc, .inl (twpct, 7, .inr (.inl twpcf))), (twu, .inr (2, [.ref twuc, .int twun])), (twuc, .inl (twuct, 6, .inr (.inl twucf))), (twh, .inl (twht, 7, .inl twhf)), (tws, .inl (twst, 6, .inl twsf)), (twg, .inl (twgt, 6, .inl twgf)), (two, .inl (twot, 14, .inl twof)), (twd, .inl (twdt, 14, .inl twdf)), (twq, .inl (twqt, 14, .inl twqf))] → va_S A s.heap H locs → lv_has ls 5 [(4, .int v1_4), (3, .int v1_3), (0, .ref sc), (1, .int i0), (2, .int i1)] → W p l e ({ frames := 2, cells := 0, slots := 0, locals := 44 }) s m ([.ref sc, .int i0, .int i1] : List Value).toArray below meth c H locs 0 0 Q (F0 m 5 ls []) := by
    intro n
    induction n with
    | zero => intro v1_3 v1_4 H locs ls hv1_3 hv1_4 hn1; exact absurd hn1 (by have q1 := hv1_4.1; have q2 := hv1_4.2; omega)
    | succ n ih1 =>
      intro v1_3 v1_4 H locs ls hv1_3 hv1_4 hn1 hP hD hS hl
      have q1 := hv1_4.1
      have q1' := hv1_4.2
      refine lv_iload hx hb dX4_feltIn_5 (lv_at hl 0 rfl) ?_
      refine lv_aload_n hx hb dX4_feltIn_7 rfl (lv_at hl 2 rfl) ?_
      refine va_get (D := D) (ci := 4) (v := .ref tw) (C := RX4) (T := TX4) (N := 8) hx hb hts hiX4 hown hK hP 0 rfl rfl 0 (by decide) (hts _ (List.mem_of_getElem? (i := 1) rfl)) (fun _ h9 => h9) rfl dX4_feltIn_8 ?_
      refine va_get (D := D) (ci := 8) (v := .ref twp) (C := RX8) (T := TX8) (N := 12) hx hb hts hiX8 hown hK hP 5 rfl rfl 1 (by decide) (hts _ (List.mem_of_getElem? (i := 2) rfl)) (fun _ h9 => h9) rfl dX4_feltIn_11 ?_
      refine va_get (D := D) (ci := 2) (v := .int twpn) (C := RX2) (T := TX2) (N := 2) hx hb hts hiX2 hown hK hP 8 rfl rfl 1 (by decide) (hts _ (List.mem_of_getElem? (i := 3) rfl)) (fun _ h9 => h9) rfl dX4_feltIn_14 ?_
      refine lv_icmp_ge (tgt := 54) hx hb dX4_feltIn_17 (by decide) (fun c_1 => ?_) (fun c_1 => ?_)
      · skip
        refine lv_iload_n hx hb dX4_feltIn_54 rfl (lv_at hl 1 rfl) ?_
        exact hret v1_3 ([(sc, .inr (4, [.ref tw, .int scd, .int sch, .int scs, .ref scp, .ref scw, .ref scc, .ref scf])), (scp, .inl (scpt, 7, .inl scpf)), (scw, .inl (scwt, 6, .inl scwf)), (scc, .inl (scct, 6, .inl sccf)), (scf, .inl (scft, 6, .inl scff)), (tw, .inr (8, [.ref twl, .ref twp, .ref twu, .int twe, .ref twh, .ref tws, .ref twg, .int twm, .ref two, .ref twd, .ref twq, .int twr])), (twl, .inr (2, [.ref twlc, .int twln])), (twlc, .inl (twlct, 5, .inr (.inl twlcf))), (twp, .inr (2, [.ref twpc, .int twpn])), (twpc, .inl (twpct, 7, .inr (.inl twpcf))), (twu, .inr (2, [.ref twuc, .int twun])), (twuc, .inl (twuct, 6, .inr (.inl twucf))), (twh, .inl (twht, 7, .inl twhf)), (tws, .inl (twst, 6, .inl twsf)), (twg, .inl (twgt, 6, .inl twgf)), (two, .inl (twot, 14, .inl twof)), (twd, .inl (twdt, 14, .inl twdf)), (twq, .inl (twqt, 14, .inl twqf))], []) _ _ _ _ dX4_feltIn_55 rfl ⟨hv1_3, rfl⟩ hP (hK.sub [] rfl) hD hS
      · skip
        have h_2 : z_in 0 6 v1_4 := z_ltL (Int32.not_le.mp c_1) hv1_4 htwpn rfl
        have h_3 : z_in 1 7 twpn := z_ltR (Int32.not_le.mp c_1) hv1_4 htwpn rfl
        refine lv_aload_n hx hb dX4_feltIn_20 rfl (lv_at hl 2 rfl) ?_
        refine va_get (D := D) (ci := 4) (v := .ref scp) (C := RX4) (T := TX4) (N := 8) hx hb hts hiX4 hown hK hP 0 rfl rfl 4 (by decide) (hts _ (List.mem_of_getElem? (i := 4) rfl)) (fun _ h9 => h9) rfl dX4_feltIn_21 ?_
        refine lv_iload hx hb dX4_feltIn_24 (lv_at hl 0 rfl) ?_
        refine va_iald hx hb hK hP 1 0 rfl rfl (z_vp h_2 rfl) dX4_feltIn_26 ?_
        refine lv_topi (fun y_4 ey_4 => ?_)
        have h_5 : z_in 0 4 y_4 := by rw [ey_4]; exact hscpf _
        refine lv_iload_n hx hb dX4_feltIn_27 rfl (lv_at hl 3 rfl) ?_
        refine lv_icmp_ne (tgt := 48) hx hb dX4_feltIn_28 (by decide) (fun c_6 => ?_) (fun c_6 => ?_)
        · skip
          obtain ⟨y_7, ey_7⟩ : ∃ y : Int32, y = v1_4 + 1 := ⟨_, rfl⟩
          have h_8 : z_in 1 7 y_7 := by rw [ey_7]; exact z_add h_2 (z_lit (x := 1) (a := 1) (b := 1) rfl) rfl rfl
          have ty_7 : y_7.toInt = v1_4.toInt + 1 := by rw [ey_7]; exact z_addT h_2 (z_lit (x := 1) (a := 1) (b := 1) rfl) rfl
          refine lv_iinc (v := y_7) (lv' := [(4, .int y_7), (3, .int v1_3), (0, .ref sc), (1, .int i0), (2, .int i1)]) hx hb dX4_feltIn_48 hl (k := 0) rfl (by rw [ey_7]; rfl) (by decide) rfl (fun ls hl => ?_)
          refine lv_goto (tgt := 5) hx hb dX4_feltIn_51 (by decide) ?_
          exact ih1 v1_3 y_7 _ _ _ hv1_3 (z_w (c := 0) (d := 7) h_8 rfl) (by omega) hP hD hS (lv_sub hl [0, 1, 2, 3, 4] rfl)
        · skip
          have h_9 : z_in 0 2147483647 i0 := z_leR (Int32.le_of_eq c_6) h_5 (z_any i0) rfl
          have h_10 : z_in 0 4 i0 := z_leL (Int32.le_of_eq (Eq.symm c_6)) h_9 h_5 rfl
          refine lv_aload_n hx hb dX4_feltIn_31 rfl (lv_at hl 2 rfl) ?_
          refine lv_iload hx hb dX4_feltIn_32 (lv_at hl 0 rfl) ?_
          have hc9 := (w_Scene_soonest l D ad sc scd sch scs scp scpt scpf scw scwt scwf scc scct sccf scf scft scff tw twe twm twr twl twln twlc twlct twlcf twp twpn twpc twpct twpcf twu twun twuc twuct twucf twh twht twhf tws twst twsf twg twgt twgf two twot twof twd twdt twdf twq twqt twqf v1_4 hscpf hscwf hsccf hscff htwm htwr htwln (z_w (c := 0) (d := 7) h_3 rfl) htwun htwhf htwsf htwgf htwof htwdf htwqf)
          refine z_calli (w0 := [(sc, .inr (4, [.ref tw, .int scd, .int sch, .int scs, .ref scp, .ref scw, .ref scc, .ref scf])), (scp, .inl (scpt, 7, .inl scpf)), (scw, .inl (scwt, 6, .inl scwf)), (scc, .inl (scct, 6, .inl sccf)), (scf, .inl (scft, 6, .inl scff)), (tw, .inr (8, [.ref twl, .ref twp, .ref twu, .int twe, .ref twh, .ref tws, .ref twg, .int twm, .ref two, .ref twd, .ref twq, .int twr])), (twl, .inr (2, [.ref twlc, .int twln])), (twlc, .inl (twlct, 5, .inr (.inl twlcf))), (twp, .inr (2, [.ref twpc, .int twpn])), (twpc, .inl (twpct, 7, .inr (.inl twpcf))), (twu, .inr (2, [.ref twuc, .int twun])), (twuc, .inl (twuct, 6, .inr (.inl twucf))), (twh, .inl (twht, 7, .inl twhf)), (tws, .inl (twst, 6, .inl twsf)), (twg, .inl (twgt, 6, .inl twgf)), (two, .inl (twot, 14, .inl twof)), (twd, .inl (twdt, 14, .inl twdf)), (twq, .inl (twqt, 14, .inl twqf))]) (wr := []) (va_runV (As := [.int v1_4]) (rest := []) ⟨hx, hb, hml, hown, hts⟩ (hc9 _) (cwV 1 hts gX4_feltIn_X4_soonest rfl rfl rfl (by decide +kernel) ⟨Nat.le_of_ble_eq_true rfl, Nat.le_of_ble_eq_true rfl⟩) (z_preV hP hD hK hS hA hE hO [0, 1, 2, 3, 4, 5, 6, 7, 8, 9, 10, 11, 12, 13, 14, 15, 16, 17] [0, 1, 2, 3, 4, 5, 6, 7, 8, 9, 10, 11, 12] rfl (by decide +kernel) rfl 0 4 rfl rfl rfl) rfl rfl hl.1 rfl (lv_room (Nat.le_of_ble_eq_true rfl)) dX4_feltIn_34 ⟨Nat.le_of_ble_eq_true rfl, Nat.le_of_ble_eq_true rfl⟩) hP hD hK hS hA [0, 1, 2, 3, 4, 5, 6, 7, 8, 9, 10, 11, 12, 13, 14, 15, 16, 17] [] rfl rfl (by decide +kernel) (by decide +kernel) (fun y_11 u9 H locs hw hP hD hK hS => ?_)
          obtain ⟨h_12, rfl⟩ := hw
          have hP : va_P D vwCl [(sc, .inr (4, [.ref tw, .int scd, .int sch, .int scs, .ref scp, .ref scw, .ref scc, .ref scf])), (scp, .inl (scpt, 7, .inl scpf)), (scw, .inl (scwt, 6, .inl scwf)), (scc, .inl (scct, 6, .inl sccf)), (scf, .inl (scft, 6, .inl scff)), (tw, .inr (8, [.ref twl, .ref twp, .ref twu, .int twe, .ref twh, .ref tws, .ref twg, .int twm, .ref two, .ref twd, .ref twq, .int twr])), (twl, .inr (2, [.ref twlc, .int twln])), (twlc, .inl (twlct, 5, .inr (.inl twlcf))), (twp, .inr (2, [.ref twpc, .int twpn])), (twpc, .inl (twpct, 7, .inr (.inl twpcf))), (twu, .inr (2, [.ref twuc, .int twun])), (twuc, .inl (twuct, 6, .inr (.inl twucf))), (twh, .inl (twht, 7, .inl twhf)), (tws, .inl (twst, 6, .inl twsf)), (twg, .inl (twgt, 6, .inl twgf)), (two, .inl (twot, 14, .inl twof)), (twd, .inl (twdt, 14, .inl twdf)), (twq, .inl (twqt, 14, .inl twqf))] H := hP
          have hD : va_D A [(sc, .inr (4, [.ref tw, .int scd, .int sch, .int scs, .ref scp, .ref scw, .ref scc, .ref scf])), (scp, .inl (scpt, 7, .inl scpf)), (scw, .inl (scwt, 6, .inl scwf)), (scc, .inl (scct, 6, .inl sccf)), (scf, .inl (scft, 6, .inl scff)), (tw, .inr (8, [.ref twl, .ref twp, .ref twu, .int twe, .ref twh, .ref tws, .ref twg, .int twm, .ref two, .ref twd, .ref twq, .int twr])), (twl, .inr (2, [.ref twlc, .int twln])), (twlc, .inl (twlct, 5, .inr (.inl twlcf))), (twp, .inr (2, [.ref twpc, .int twpn])), (twpc, .inl (twpct, 7, .inr (.inl twpcf))), (twu, .inr (2, [.ref twuc, .int twun])), (twuc, .inl (twuct, 6, .inr (.inl twucf))), (twh, .inl (twht, 7, .inl twhf)), (tws, .inl (twst, 6, .inl twsf)), (twg, .inl (twgt, 6, .inl twgf)), (two, .inl (twot, 14, .inl twof)), (twd, .inl (twdt, 14, .inl twdf)), (twq, .inl (twqt, 14, .inl twqf))] := hD
          have hK : va_K D vwCl [(scpt, .int), (scwt, .int), (scct, .int), (scft, .int), (twlct, .long), (twpct, .long), (twuct, .long), (twht, .int), (twst, .int), (twgt, .int), (twot, .int), (twdt, .int), (twqt, .int)] s := hK
          refine W.cs (cells' := 0) (slots' := 0) rfl rfl ?_
          refine W.eq (g2 := F0 m 37 ls (.int y_11 :: [])) rfl ?_
          refine lv_iload_n hx hb dX4_feltIn_37 rfl (lv_at hl 4 rfl) ?_
          refine lv_icmp_gt (tgt := 48) hx hb dX4_feltIn_38 (by decide) (fun c_13 => ?_) (fun c_13 => ?_)
          · skip
            have h_14 : z_in (-2147483648) 999 i1 := z_ltL c_13 (z_any i1) h_12 rfl
            have h_15 : z_in (-2147483647) 1000 y_11 := z_ltR c_13 (z_any i1) h_12 rfl
            obtain ⟨y_16, ey_16⟩ : ∃ y : Int32, y = v1_4 + 1 := ⟨_, rfl⟩
            have h_17 : z_in 1 7 y_16 := by rw [ey_16]; exact z_add h_2 (z_lit (x := 1) (a := 1) (b := 1) rfl) rfl rfl
            have ty_16 : y_16.toInt = v1_4.toInt + 1 := by rw [ey_16]; exact z_addT h_2 (z_lit (x := 1) (a := 1) (b := 1) rfl) rfl
            refine lv_iinc (v := y_16) (lv' := [(4, .int y_16), (3, .int v1_3), (0, .ref sc), (1, .int i0), (2, .int i1)]) hx hb dX4_feltIn_48 hl (k := 0) rfl (by rw [ey_16]; rfl) (by decide) rfl (fun ls hl => ?_)
            refine lv_goto (tgt := 5) hx hb dX4_feltIn_51 (by decide) ?_
            exact ih1 v1_3 y_16 _ _ _ hv1_3 (z_w (c := 0) (d := 7) h_17 rfl) (by omega) hP hD hS (lv_sub hl [0, 1, 2, 3, 4] rfl)
          · skip
            refine lv_iload_n hx hb dX4_feltIn_41 rfl (lv_at hl 1 rfl) ?_
            refine lv_iconst (v := 1) hx hb dX4_feltIn_42 (by decide) ?_
            refine lv_iload hx hb dX4_feltIn_43 (lv_at hl 0 rfl) ?_
            refine lv_ishl hx hb dX4_feltIn_45 ?_
            refine lv_topi (fun y_18 ey_18 => ?_)
            have h_19 : z_in 1 64 y_18 := by rw [ey_18]; exact z_shl1 h_2 rfl
            refine lv_ior hx hb dX4_feltIn_46 ?_
            refine lv_topi (fun y_20 ey_20 => ?_)
            have h_21 : z_in 0 127 y_20 := by rw [ey_20]; exact z_or (k := 7) hv1_3 h_19 rfl
            refine lv_istore_n (lv' := [(3, .int y_20), (4, .int v1_4), (0, .ref sc), (1, .int i0), (2, .int i1)]) hx hb dX4_feltIn_47 rfl hl (by decide) rfl (fun ls hl => ?_)
            obtain ⟨y_22, ey_22⟩ : ∃ y : Int32, y = v1_4 + 1 := ⟨_, rfl⟩
            have h_23 : z_in 1 7 y_22 := by rw [ey_22]; exact z_add h_2 (z_lit (x := 1) (a := 1) (b := 1) rfl) rfl rfl
            have ty_22 : y_22.toInt = v1_4.toInt + 1 := by rw [ey_22]; exact z_addT h_2 (z_lit (x := 1) (a := 1) (b := 1) rfl) rfl
            refine lv_iinc (v := y_22) (lv' := [(4, .int y_22), (3, .int y_20), (0, .ref sc), (1, .int i0), (2, .int i1)]) hx hb dX4_feltIn_48 hl (k := 1) rfl (by rw [ey_22]; rfl) (by decide) rfl (fun ls hl => ?_)
            refine lv_goto (tgt := 5) hx hb dX4_feltIn_51 (by decide) ?_
            exact ih1 y_20 y_22 _ _ _ h_21 (z_w (c := 0) (d := 7) h_23 rfl) (by omega) hP hD hS (lv_sub hl [0, 1, 2, 3, 4] rfl)
  exact LP1 8 0 0 _ _ _ (z_w (c := 0) (d := 127) (z_lit (x := 0) (a := 0) (b := 0) rfl) rfl) (z_w (c := 0) (d := 7) (z_lit (x := 0) (a := 0) (b := 0) rfl) rfl) (by decide) hP hD hS (lv_sub hl [0, 1, 2, 3, 4] rfl)

set_option maxHeartbeats 8000000 in
set_option maxRecDepth 100000 in
theorem w_Scene_openedFor (l : Launch) (D : va_G) (ad : Nat → Nat) (sc : Nat) (scd : Int32) (sch : Int32) (scs : Int32) (scp : Nat) (scpt : ClassId) (scpf : Nat → Int32) (scw : Nat) (scwt : ClassId) (scwf : Nat → Int32) (scc : Nat) (scct : ClassId) (sccf : Nat → Int32) (scf : Nat) (scft : ClassId) (scff : Nat → Int32) (tw : Nat) (twe : Int32) (twm : Int32) (twr : Int32) (twl : Nat) (twln : Int32) (twlc : Nat) (twlct : ClassId) (twlcf : Nat → Int64) (twp : Nat) (twpn : Int32) (twpc : Nat) (twpct : ClassId) (twpcf : Nat → Int64) (twu : Nat) (twun : Int32) (twuc : Nat) (twuct : ClassId) (twucf : Nat → Int64) (twh : Nat) (twht : ClassId) (twhf : Nat → Int32) (tws : Nat) (twst : ClassId) (twsf : Nat → Int32) (twg : Nat) (twgt : ClassId) (twgf : Nat → Int32) (two : Nat) (twot : ClassId) (twof : Nat → Int32) (twd : Nat) (twdt : ClassId) (twdf : Nat → Int32) (twq : Nat) (twqt : ClassId) (twqf : Nat → Int32) (i0 : Int32) (hscpf : z_al 0 4 scpf) (hscwf : z_al 0 4 scwf) (hsccf : z_al (-1) 6 sccf) (hscff : z_al 0 12 scff) (htwm : z_in 0 14 twm) (htwr : z_in 0 5 twr) (htwln : z_in 0 5 twln) (htwpn : z_in 0 7 twpn) (htwun : z_in 0 6 twun) (htwhf : z_al 0 4 twhf) (htwsf : z_al 0 4 twsf) (htwgf : z_al 0 12 twgf) (htwof : z_al 0 6 twof) (htwdf : z_al 0 199 twdf) (htwqf : z_al 0 20 twqf) (hi0 : z_in 0 5 i0) : z_Mi l yX4_openedFor wsX4_openedFor { frames := 3, cells := 0, slots := 0, locals := 68 } D ad [.ref sc, .int i0] [(sc, .inr (4, [.ref tw, .int scd, .int sch, .int scs, .ref scp, .ref scw, .ref scc, .ref scf])), (scp, .inl (scpt, 7, .inl scpf)), (scw, .inl (scwt, 6, .inl scwf)), (scc, .inl (scct, 6, .inl sccf)), (scf, .inl (scft, 6, .inl scff)), (tw, .inr (8, [.ref twl, .ref twp, .ref twu, .int twe, .ref twh, .ref tws, .ref twg, .int twm, .ref two, .ref twd, .ref twq, .int twr])), (twl, .inr (2, [.ref twlc, .int twln])), (twlc, .inl (twlct, 5, .inr (.inl twlcf))), (twp, .inr (2, [.ref twpc, .int twpn])), (twpc, .inl (twpct, 7, .inr (.inl twpcf))), (twu, .inr (2, [.ref twuc, .int twun])), (twuc, .inl (twuct, 6, .inr (.inl twucf))), (twh, .inl (twht, 7, .inl twhf)), (tws, .inl (twst, 6, .inl twsf)), (twg, .inl (twgt, 6, .inl twgf)), (two, .inl (twot, 14, .inl twof)), (twd, .inl (twdt, 14, .inl twdf)), (twq, .inl (twqt, 14, .inl twqf))] [(scpt, .int), (scwt, .int), (scct, .int), (scft, .int), (twlct, .long), (twpct, .long), (twuct, .long), (twht, .int), (twst, .int), (twgt, .int), (twot, .int), (twdt, .int), (twqt, .int)] 0 0 (fun r9 u9 => z_in 0 127 r9 ∧ u9 = ([(sc, .inr (4, [.ref tw, .int scd, .int sch, .int scs, .ref scp, .ref scw, .ref scc, .ref scf])), (scp, .inl (scpt, 7, .inl scpf)), (scw, .inl (scwt, 6, .inl scwf)), (scc, .inl (scct, 6, .inl sccf)), (scf, .inl (scft, 6, .inl scff)), (tw, .inr (8, [.ref twl, .ref twp, .ref twu, .int twe, .ref twh, .ref tws, .ref twg, .int twm, .ref two, .ref twd, .ref twq, .int twr])), (twl, .inr (2, [.ref twlc, .int twln])), (twlc, .inl (twlct, 5, .inr (.inl twlcf))), (twp, .inr (2, [.ref twpc, .int twpn])), (twpc, .inl (twpct, 7, .inr (.inl twpcf))), (twu, .inr (2, [.ref twuc, .int twun])), (twuc, .inl (twuct, 6, .inr (.inl twucf))), (twh, .inl (twht, 7, .inl twhf)), (tws, .inl (twst, 6, .inl twsf)), (twg, .inl (twgt, 6, .inl twgf)), (two, .inl (twot, 14, .inl twof)), (twd, .inl (twdt, 14, .inl twdf)), (twq, .inl (twqt, 14, .inl twqf))], [])) := by
  refine z_ofI (cc := cX4_openedFor) (maxL := 2) (rt := .int) (by decide) rfl (Nat.le_of_ble_eq_true rfl) ?_
  intro p e s m below meth c Q A ls hx hb hml hown hts hin hK hP hD hA hE hO hS hl hret
  have hown : s.vm.findClass RX4 = some m.cls := hown
  have hiX4 : ∀ w ∈ wsX40, w ∈ wsX4_openedFor := fun _ h9 => List.mem_cons_of_mem _ (List.mem_append_left _ (List.mem_append_left _ (List.mem_append_right _ h9)))
  have hiX8 : ∀ w ∈ wsX80, w ∈ wsX4_openedFor := fun _ h9 => List.mem_cons_of_mem _ (List.mem_append_left _ (List.mem_append_right _ h9))
  have hiX2 : ∀ w ∈ wsX20, w ∈ wsX4_openedFor := fun _ h9 => List.mem_cons_of_mem _ (List.mem_append_right _ h9)
  have hl : lv_has ls 2 [(0, .ref sc), (1, .int i0)] := hl
  refine lv_aload_n hx hb dX4_openedFor_0 rfl (lv_at hl 0 rfl) ?_
  refine lv_aload_n hx hb dX4_openedFor_1 rfl (lv_at hl 0 rfl) ?_
  refine lv_iload_n hx hb dX4_openedFor_2 rfl (lv_at hl 1 rfl) ?_
  have hc9 := (w_Scene_whereIs l D ad sc scd sch scs scp scpt scpf scw scwt scwf scc scct sccf scf scft scff tw twe twm twr twl twln twlc twlct twlcf twp twpn twpc twpct twpcf twu twun twuc twuct twucf twh twht twhf tws twst twsf twg twgt twgf two twot twof twd twdt twdf twq twqt twqf i0 hscpf hscwf hsccf hscff htwm htwr htwln htwpn htwun htwhf htwsf htwgf htwof htwdf htwqf hi0)
  refine z_calli (w0 := [(sc, .inr (4, [.ref tw, .int scd, .int sch, .int scs, .ref scp, .ref scw, .ref scc, .ref scf])), (scp, .inl (scpt, 7, .inl scpf)), (scw, .inl (scwt, 6, .inl scwf)), (scc, .inl (scct, 6, .inl sccf)), (scf, .inl (scft, 6, .inl scff)), (tw, .inr (8, [.ref twl, .ref twp, .ref twu, .int twe, .ref twh, .ref tws, .ref twg, .int twm, .ref two, .ref twd, .ref twq, .int twr])), (twl, .inr (2, [.ref twlc, .int twln])), (twlc, .inl (twlct, 5, .inr (.inl twlcf))), (twp, .inr (2, [.ref twpc, .int twpn])), (twpc, .inl (twpct, 7, .inr (.inl twpcf))), (twu, .inr (2, [.ref twuc, .int twun])), (twuc, .inl (twuct, 6, .inr (.inl twucf))), (twh, .inl (twht, 7, .inl twhf)), (tws, .inl (twst, 6, .inl twsf)), (twg, .inl (twgt, 6, .inl twgf)), (two, .inl (twot, 14, .inl twof)), (twd, .inl (twdt, 14, .inl twdf)), (twq, .inl (twqt, 14, .inl twqf))]) (wr := []) (va_runV (As := [.int i0]) (rest := [.ref sc]) ⟨hx, hb, hml, hown, hts⟩ (hc9 _) (cwV 1 hts gX4_openedFor_X4_whereIs rfl rfl rfl (by decide +kernel) ⟨Nat.le_of_ble_eq_true rfl, Nat.le_of_ble_eq_true rfl⟩) (z_preV hP hD hK hS hA hE hO [0, 1, 2, 3, 4, 5, 6, 7, 8, 9, 10, 11, 12, 13, 14, 15, 16, 17] [0, 1, 2, 3, 4, 5, 6, 7, 8, 9, 10, 11, 12] rfl (by decide +kernel) rfl 0 4 rfl rfl rfl) rfl rfl hl.1 rfl (lv_room (Nat.le_of_ble_eq_true rfl)) dX4_openedFor_3 ⟨Nat.le_of_ble_eq_true rfl, Nat.le_of_ble_eq_true rfl⟩) hP hD hK hS hA [0, 1, 2, 3, 4, 5, 6, 7, 8, 9, 10, 11, 12, 13, 14, 15, 16, 17] [] rfl rfl (by decide +kernel) (by decide +kernel) (fun y_1 u9 H locs hw hP hD hK hS => ?_)
  obtain ⟨h_2, rfl⟩ := hw
  have hP : va_P D vwCl [(sc, .inr (4, [.ref tw, .int scd, .int sch, .int scs, .ref scp, .ref scw, .ref scc, .ref scf])), (scp, .inl (scpt, 7, .inl scpf)), (scw, .inl (scwt, 6, .inl scwf)), (scc, .inl (scct, 6, .inl sccf)), (scf, .inl (scft, 6, .inl scff)), (tw, .inr (8, [.ref twl, .ref twp, .ref twu, .int twe, .ref twh, .ref tws, .ref twg, .int twm, .ref two, .ref twd, .ref twq, .int twr])), (twl, .inr (2, [.ref twlc, .int twln])), (twlc, .inl (twlct, 5, .inr (.inl twlcf))), (twp, .inr (2, [.ref twpc, .int twpn])), (twpc, .inl (twpct, 7, .inr (.inl twpcf))), (twu, .inr (2, [.ref twuc, .int twun])), (twuc, .inl (twuct, 6, .inr (.inl twucf))), (twh, .inl (twht, 7, .inl twhf)), (tws, .inl (twst, 6, .inl twsf)), (twg, .inl (twgt, 6, .inl twgf)), (two, .inl (twot, 14, .inl twof)), (twd, .inl (twdt, 14, .inl twdf)), (twq, .inl (twqt, 14, .inl twqf))] H := hP
  have hD : va_D A [(sc, .inr (4, [.ref tw, .int scd, .int sch, .int scs, .ref scp, .ref scw, .ref scc, .ref scf])), (scp, .inl (scpt, 7, .inl scpf)), (scw, .inl (scwt, 6, .inl scwf)), (scc, .inl (scct, 6, .inl sccf)), (scf, .inl (scft, 6, .inl scff)), (tw, .inr (8, [.ref twl, .ref twp, .ref twu, .int twe, .ref twh, .ref tws, .ref twg, .int twm, .ref two, .ref twd, .ref twq, .int twr])), (twl, .inr (2, [.ref twlc, .int twln])), (twlc, .inl (twlct, 5, .inr (.inl twlcf))), (twp, .inr (2, [.ref twpc, .int twpn])), (twpc, .inl (twpct, 7, .inr (.inl twpcf))), (twu, .inr (2, [.ref twuc, .int twun])), (twuc, .inl (twuct, 6, .inr (.inl twucf))), (twh, .inl (twht, 7, .inl twhf)), (tws, .inl (twst, 6, .inl twsf)), (twg, .inl (twgt, 6, .inl twgf)), (two, .inl (twot, 14, .inl twof)), (twd, .inl (twdt, 14, .inl twdf)), (twq, .inl (twqt, 14, .inl twqf))] := hD
  have hK : va_K D vwCl [(scpt, .int), (scwt, .int), (scct, .int), (scft, .int), (twlct, .long), (twpct, .long), (twuct, .long), (twht, .int), (twst, .int), (twgt, .int), (twot, .int), (twdt, .int), (twqt, .int)] s := hK
  refine W.cs (cells' := 0) (slots' := 0) rfl rfl ?_
  refine W.eq (g2 := F0 m 6 ls (.int y_1 :: [.ref sc])) rfl ?_
  refine lv_aload_n hx hb dX4_openedFor_6 rfl (lv_at hl 0 rfl) ?_
  refine lv_iload_n hx hb dX4_openedFor_7 rfl (lv_at hl 1 rfl) ?_
  have hc9 := (w_Scene_reach l D ad sc scd sch scs scp scpt scpf scw scwt scwf scc scct sccf scf scft scff tw twe twm twr twl twln twlc twlct twlcf twp twpn twpc twpct twpcf twu twun twuc twuct twucf twh twht twhf tws twst twsf twg twgt twgf two twot twof twd twdt twdf twq twqt twqf i0 hscpf hscwf hsccf hscff htwm htwr htwln htwpn htwun htwhf htwsf htwgf htwof htwdf htwqf hi0)
  refine z_calli (w0 := [(sc, .inr (4, [.ref tw, .int scd, .int sch, .int scs, .ref scp, .ref scw, .ref scc, .ref scf])), (scp, .inl (scpt, 7, .inl scpf)), (scw, .inl (scwt, 6, .inl scwf)), (scc, .inl (scct, 6, .inl sccf)), (scf, .inl (scft, 6, .inl scff)), (tw, .inr (8, [.ref twl, .ref twp, .ref twu, .int twe, .ref twh, .ref tws, .ref twg, .int twm, .ref two, .ref twd, .ref twq, .int twr])), (twl, .inr (2, [.ref twlc, .int twln])), (twlc, .inl (twlct, 5, .inr (.inl twlcf))), (twp, .inr (2, [.ref twpc, .int twpn])), (twpc, .inl (twpct, 7, .inr (.inl twpcf))), (twu, .inr (2, [.ref twuc, .int twun])), (twuc, .inl (twuct, 6, .inr (.inl twucf))), (twh, .inl (twht, 7, .inl twhf)), (tws, .inl (twst, 6, .inl twsf)), (twg, .inl (twgt, 6, .inl twgf)), (two, .inl (twot, 14, .inl twof)), (twd, .inl (twdt, 14, .inl twdf)), (twq, .inl (twqt, 14, .inl twqf))]) (wr := []) (va_runV (As := [.int i0]) (rest := [.int y_1, .ref sc]) ⟨hx, hb, hml, hown, hts⟩ (hc9 _) (cwV 1 hts gX4_openedFor_X4_reach rfl rfl rfl (by decide +kernel) ⟨Nat.le_of_ble_eq_true rfl, Nat.le_of_ble_eq_true rfl⟩) (z_preV hP hD hK hS hA hE hO [0, 1, 2, 3, 4, 5, 6, 7, 8, 9, 10, 11, 12, 13, 14, 15, 16, 17] [0, 1, 2, 3, 4, 5, 6, 7, 8, 9, 10, 11, 12] rfl (by decide +kernel) rfl 0 4 rfl rfl rfl) rfl rfl hl.1 rfl (lv_room (Nat.le_of_ble_eq_true rfl)) dX4_openedFor_8 ⟨Nat.le_of_ble_eq_true rfl, Nat.le_of_ble_eq_true rfl⟩) hP hD hK hS hA [0, 1, 2, 3, 4, 5, 6, 7, 8, 9, 10, 11, 12, 13, 14, 15, 16, 17] [] rfl rfl (by decide +kernel) (by decide +kernel) (fun y_3 u9 H locs hw hP hD hK hS => ?_)
  obtain ⟨h_4, rfl⟩ := hw
  have hP : va_P D vwCl [(sc, .inr (4, [.ref tw, .int scd, .int sch, .int scs, .ref scp, .ref scw, .ref scc, .ref scf])), (scp, .inl (scpt, 7, .inl scpf)), (scw, .inl (scwt, 6, .inl scwf)), (scc, .inl (scct, 6, .inl sccf)), (scf, .inl (scft, 6, .inl scff)), (tw, .inr (8, [.ref twl, .ref twp, .ref twu, .int twe, .ref twh, .ref tws, .ref twg, .int twm, .ref two, .ref twd, .ref twq, .int twr])), (twl, .inr (2, [.ref twlc, .int twln])), (twlc, .inl (twlct, 5, .inr (.inl twlcf))), (twp, .inr (2, [.ref twpc, .int twpn])), (twpc, .inl (twpct, 7, .inr (.inl twpcf))), (twu, .inr (2, [.ref twuc, .int twun])), (twuc, .inl (twuct, 6, .inr (.inl twucf))), (twh, .inl (twht, 7, .inl twhf)), (tws, .inl (twst, 6, .inl twsf)), (twg, .inl (twgt, 6, .inl twgf)), (two, .inl (twot, 14, .inl twof)), (twd, .inl (twdt, 14, .inl twdf)), (twq, .inl (twqt, 14, .inl twqf))] H := hP
  have hD : va_D A [(sc, .inr (4, [.ref tw, .int scd, .int sch, .int scs, .ref scp, .ref scw, .ref scc, .ref scf])), (scp, .inl (scpt, 7, .inl scpf)), (scw, .inl (scwt, 6, .inl scwf)), (scc, .inl (scct, 6, .inl sccf)), (scf, .inl (scft, 6, .inl scff)), (tw, .inr (8, [.ref twl, .ref twp, .ref twu, .int twe, .ref twh, .ref tws, .ref twg, .int twm, .ref two, .ref twd, .ref twq, .int twr])), (twl, .inr (2, [.ref twlc, .int twln])), (twlc, .inl (twlct, 5, .inr (.inl twlcf))), (twp, .inr (2, [.ref twpc, .int twpn])), (twpc, .inl (twpct, 7, .inr (.inl twpcf))), (twu, .inr (2, [.ref twuc, .int twun])), (twuc, .inl (twuct, 6, .inr (.inl twucf))), (twh, .inl (twht, 7, .inl twhf)), (tws, .inl (twst, 6, .inl twsf)), (twg, .inl (twgt, 6, .inl twgf)), (two, .inl (twot, 14, .inl twof)), (twd, .inl (twdt, 14, .inl twdf)), (twq, .inl (twqt, 14, .inl twqf))] := hD
  have hK : va_K D vwCl [(scpt, .int), (scwt, .int), (scct, .int), (scft, .int), (twlct, .long), (twpct, .long), (twuct, .long), (twht, .int), (twst, .int), (twgt, .int), (twot, .int), (twdt, .int), (twqt, .int)] s := hK
  refine W.cs (cells' := 0) (slots' := 0) rfl rfl ?_
  refine W.eq (g2 := F0 m 11 ls (.int y_3 :: [.int y_1, .ref sc])) rfl ?_
  have hc9 := (w_Scene_feltIn l D ad sc scd sch scs scp scpt scpf scw scwt scwf scc scct sccf scf scft scff tw twe twm twr twl twln twlc twlct twlcf twp twpn twpc twpct twpcf twu twun twuc twuct twucf twh twht twhf tws twst twsf twg twgt twgf two twot twof twd twdt twdf twq twqt twqf y_1 y_3 hscpf hscwf hsccf hscff htwm htwr htwln htwpn htwun htwhf htwsf htwgf htwof htwdf htwqf)
  refine z_calli (w0 := [(sc, .inr (4, [.ref tw, .int scd, .int sch, .int scs, .ref scp, .ref scw, .ref scc, .ref scf])), (scp, .inl (scpt, 7, .inl scpf)), (scw, .inl (scwt, 6, .inl scwf)), (scc, .inl (scct, 6, .inl sccf)), (scf, .inl (scft, 6, .inl scff)), (tw, .inr (8, [.ref twl, .ref twp, .ref twu, .int twe, .ref twh, .ref tws, .ref twg, .int twm, .ref two, .ref twd, .ref twq, .int twr])), (twl, .inr (2, [.ref twlc, .int twln])), (twlc, .inl (twlct, 5, .inr (.inl twlcf))), (twp, .inr (2, [.ref twpc, .int twpn])), (twpc, .inl (twpct, 7, .inr (.inl twpcf))), (twu, .inr (2, [.ref twuc, .int twun])), (twuc, .inl (twuct, 6, .inr (.inl twucf))), (twh, .inl (twht, 7, .inl twhf)), (tws, .inl (twst, 6, .inl twsf)), (twg, .inl (twgt, 6, .inl twgf)), (two, .inl (twot, 14, .inl twof)), (twd, .inl (twdt, 14, .inl twdf)), (twq, .inl (twqt, 14, .inl twqf))]) (wr := []) (va_runV (As := [.int y_1, .int y_3]) (rest := []) ⟨hx, hb, hml, hown, hts⟩ (hc9 _) (cwV 2 hts gX4_openedFor_X4_feltIn rfl rfl rfl (by decide +kernel) ⟨Nat.le_of_ble_eq_true rfl, Nat.le_of_ble_eq_true rfl⟩) (z_preV hP hD hK hS hA hE hO [0, 1, 2, 3, 4, 5, 6, 7, 8, 9, 10, 11, 12, 13, 14, 15, 16, 17] [0, 1, 2, 3, 4, 5, 6, 7, 8, 9, 10, 11, 12] rfl (by decide +kernel) rfl 0 4 rfl rfl rfl) rfl rfl hl.1 rfl (lv_room (Nat.le_of_ble_eq_true rfl)) dX4_openedFor_11 ⟨Nat.le_of_ble_eq_true rfl, Nat.le_of_ble_eq_true rfl⟩) hP hD hK hS hA [0, 1, 2, 3, 4, 5, 6, 7, 8, 9, 10, 11, 12, 13, 14, 15, 16, 17] [] rfl rfl (by decide +kernel) (by decide +kernel) (fun y_5 u9 H locs hw hP hD hK hS => ?_)
  obtain ⟨h_6, rfl⟩ := hw
  have hP : va_P D vwCl [(sc, .inr (4, [.ref tw, .int scd, .int sch, .int scs, .ref scp, .ref scw, .ref scc, .ref scf])), (scp, .inl (scpt, 7, .inl scpf)), (scw, .inl (scwt, 6, .inl scwf)), (scc, .inl (scct, 6, .inl sccf)), (scf, .inl (scft, 6, .inl scff)), (tw, .inr (8, [.ref twl, .ref twp, .ref twu, .int twe, .ref twh, .ref tws, .ref twg, .int twm, .ref two, .ref twd, .ref twq, .int twr])), (twl, .inr (2, [.ref twlc, .int twln])), (twlc, .inl (twlct, 5, .inr (.inl twlcf))), (twp, .inr (2, [.ref twpc, .int twpn])), (twpc, .inl (twpct, 7, .inr (.inl twpcf))), (twu, .inr (2, [.ref twuc, .int twun])), (twuc, .inl (twuct, 6, .inr (.inl twucf))), (twh, .inl (twht, 7, .inl twhf)), (tws, .inl (twst, 6, .inl twsf)), (twg, .inl (twgt, 6, .inl twgf)), (two, .inl (twot, 14, .inl twof)), (twd, .inl (twdt, 14, .inl twdf)), (twq, .inl (twqt, 14, .inl twqf))] H := hP
  have hD : va_D A [(sc, .inr (4, [.ref tw, .int scd, .int sch, .int scs, .ref scp, .ref scw, .ref scc, .ref scf])), (scp, .inl (scpt, 7, .inl scpf)), (scw, .inl (scwt, 6, .inl scwf)), (scc, .inl (scct, 6, .inl sccf)), (scf, .inl (scft, 6, .inl scff)), (tw, .inr (8, [.ref twl, .ref twp, .ref twu, .int twe, .ref twh, .ref tws, .ref twg, .int twm, .ref two, .ref twd, .ref twq, .int twr])), (twl, .inr (2, [.ref twlc, .int twln])), (twlc, .inl (twlct, 5, .inr (.inl twlcf))), (twp, .inr (2, [.ref twpc, .int twpn])), (twpc, .inl (twpct, 7, .inr (.inl twpcf))), (twu, .inr (2, [.ref twuc, .int twun])), (twuc, .inl (twuct, 6, .inr (.inl twucf))), (twh, .inl (twht, 7, .inl twhf)), (tws, .inl (twst, 6, .inl twsf)), (twg, .inl (twgt, 6, .inl twgf)), (two, .inl (twot, 14, .inl twof)), (twd, .inl (twdt, 14, .inl twdf)), (twq, .inl (twqt, 14, .inl twqf))] := hD
  have hK : va_K D vwCl [(scpt, .int), (scwt, .int), (scct, .int), (scft, .int), (twlct, .long), (twpct, .long), (twuct, .long), (twht, .int), (twst, .int), (twgt, .int), (twot, .int), (twdt, .int), (twqt, .int)] s := hK
  refine W.cs (cells' := 0) (slots' := 0) rfl rfl ?_
  refine W.eq (g2 := F0 m 14 ls (.int y_5 :: [])) rfl ?_
  exact hret y_5 ([(sc, .inr (4, [.ref tw, .int scd, .int sch, .int scs, .ref scp, .ref scw, .ref scc, .ref scf])), (scp, .inl (scpt, 7, .inl scpf)), (scw, .inl (scwt, 6, .inl scwf)), (scc, .inl (scct, 6, .inl sccf)), (scf, .inl (scft, 6, .inl scff)), (tw, .inr (8, [.ref twl, .ref twp, .ref twu, .int twe, .ref twh, .ref tws, .ref twg, .int twm, .ref two, .ref twd, .ref twq, .int twr])), (twl, .inr (2, [.ref twlc, .int twln])), (twlc, .inl (twlct, 5, .inr (.inl twlcf))), (twp, .inr (2, [.ref twpc, .int twpn])), (twpc, .inl (twpct, 7, .inr (.inl twpcf))), (twu, .inr (2, [.ref twuc, .int twun])), (twuc, .inl (twuct, 6, .inr (.inl twucf))), (twh, .inl (twht, 7, .inl twhf)), (tws, .inl (twst, 6, .inl twsf)), (twg, .inl (twgt, 6, .inl twgf)), (two, .inl (twot, 14, .inl twof)), (twd, .inl (twdt, 14, .inl twdf)), (twq, .inl (twqt, 14, .inl twqf))], []) _ _ _ _ dX4_openedFor_14 rfl ⟨h_6, rfl⟩ hP (hK.sub [] rfl) hD hS

set_option maxHeartbeats 8000000 in
set_option maxRecDepth 100000 in
theorem w_Scene_neverShuts (l : Launch) (D : va_G) (ad : Nat → Nat) (sc : Nat) (scd : Int32) (sch : Int32) (scs : Int32) (scp : Nat) (scpt : ClassId) (scpf : Nat → Int32) (scw : Nat) (scwt : ClassId) (scwf : Nat → Int32) (scc : Nat) (scct : ClassId) (sccf : Nat → Int32) (scf : Nat) (scft : ClassId) (scff : Nat → Int32) (tw : Nat) (twe : Int32) (twm : Int32) (twr : Int32) (twl : Nat) (twln : Int32) (twlc : Nat) (twlct : ClassId) (twlcf : Nat → Int64) (twp : Nat) (twpn : Int32) (twpc : Nat) (twpct : ClassId) (twpcf : Nat → Int64) (twu : Nat) (twun : Int32) (twuc : Nat) (twuct : ClassId) (twucf : Nat → Int64) (twh : Nat) (twht : ClassId) (twhf : Nat → Int32) (tws : Nat) (twst : ClassId) (twsf : Nat → Int32) (twg : Nat) (twgt : ClassId) (twgf : Nat → Int32) (two : Nat) (twot : ClassId) (twof : Nat → Int32) (twd : Nat) (twdt : ClassId) (twdf : Nat → Int32) (twq : Nat) (twqt : ClassId) (twqf : Nat → Int32) (i0 : Int32) (hscpf : z_al 0 4 scpf) (hscwf : z_al 0 4 scwf) (hsccf : z_al (-1) 6 sccf) (hscff : z_al 0 12 scff) (htwm : z_in 0 14 twm) (htwr : z_in 0 5 twr) (htwln : z_in 0 5 twln) (htwpn : z_in 0 7 twpn) (htwun : z_in 0 6 twun) (htwhf : z_al 0 4 twhf) (htwsf : z_al 0 4 twsf) (htwgf : z_al 0 12 twgf) (htwof : z_al 0 6 twof) (htwdf : z_al 0 199 twdf) (htwqf : z_al 0 20 twqf) (hi0 : z_in 0 5 i0) : z_Mi l yX4_neverShuts wsX4_neverShuts { frames := 0, cells := 0, slots := 0, locals := 0 } D ad [.ref sc, .int i0] [(sc, .inr (4, [.ref tw, .int scd, .int sch, .int scs, .ref scp, .ref scw, .ref scc, .ref scf])), (scp, .inl (scpt, 7, .inl scpf)), (scw, .inl (scwt, 6, .inl scwf)), (scc, .inl (scct, 6, .inl sccf)), (scf, .inl (scft, 6, .inl scff)), (tw, .inr (8, [.ref twl, .ref twp, .ref twu, .int twe, .ref twh, .ref tws, .ref twg, .int twm, .ref two, .ref twd, .ref twq, .int twr])), (twl, .inr (2, [.ref twlc, .int twln])), (twlc, .inl (twlct, 5, .inr (.inl twlcf))), (twp, .inr (2, [.ref twpc, .int twpn])), (twpc, .inl (twpct, 7, .inr (.inl twpcf))), (twu, .inr (2, [.ref twuc, .int twun])), (twuc, .inl (twuct, 6, .inr (.inl twucf))), (twh, .inl (twht, 7, .inl twhf)), (tws, .inl (twst, 6, .inl twsf)), (twg, .inl (twgt, 6, .inl twgf)), (two, .inl (twot, 14, .inl twof)), (twd, .inl (twdt, 14, .inl twdf)), (twq, .inl (twqt, 14, .inl twqf))] [(scpt, .int), (scwt, .int), (scct, .int), (scft, .int), (twlct, .long), (twpct, .long), (twuct, .long), (twht, .int), (twst, .int), (twgt, .int), (twot, .int), (twdt, .int), (twqt, .int)] 0 0 (fun r9 u9 => z_in 0 1 r9 ∧ u9 = ([(sc, .inr (4, [.ref tw, .int scd, .int sch, .int scs, .ref scp, .ref scw, .ref scc, .ref scf])), (scp, .inl (scpt, 7, .inl scpf)), (scw, .inl (scwt, 6, .inl scwf)), (scc, .inl (scct, 6, .inl sccf)), (scf, .inl (scft, 6, .inl scff)), (tw, .inr (8, [.ref twl, .ref twp, .ref twu, .int twe, .ref twh, .ref tws, .ref twg, .int twm, .ref two, .ref twd, .ref twq, .int twr])), (twl, .inr (2, [.ref twlc, .int twln])), (twlc, .inl (twlct, 5, .inr (.inl twlcf))), (twp, .inr (2, [.ref twpc, .int twpn])), (twpc, .inl (twpct, 7, .inr (.inl twpcf))), (twu, .inr (2, [.ref twuc, .int twun])), (twuc, .inl (twuct, 6, .inr (.inl twucf))), (twh, .inl (twht, 7, .inl twhf)), (tws, .inl (twst, 6, .inl twsf)), (twg, .inl (twgt, 6, .inl twgf)), (two, .inl (twot, 14, .inl twof)), (twd, .inl (twdt, 14, .inl twdf)), (twq, .inl (twqt, 14, .inl twqf))], [])) := by
  refine z_ofI (cc := cX4_neverShuts) (maxL := 2) (rt := .boolean) (by decide) rfl (Nat.le_of_ble_eq_true rfl) ?_
  intro p e s m below meth c Q A ls hx hb hml hown hts hin hK hP hD hA hE hO hS hl hret
  have hown : s.vm.findClass RX4 = some m.cls := hown
  have hiX4 : ∀ w ∈ wsX40, w ∈ wsX4_neverShuts := fun _ h9 => List.mem_cons_of_mem _ (List.mem_append_right _ h9)
  have hl : lv_has ls 2 [(0, .ref sc), (1, .int i0)] := hl
  refine lv_aload_n hx hb dX4_neverShuts_0 rfl (lv_at hl 0 rfl) ?_
  refine va_get (D := D) (ci := 4) (v := .ref scf) (C := RX4) (T := TX4) (N := 8) hx hb hts hiX4 hown hK hP 0 rfl rfl 7 (by decide) (hts _ (List.mem_of_getElem? (i := 1) rfl)) (fun _ h9 => h9) rfl dX4_neverShuts_1 ?_
  refine lv_iload_n hx hb dX4_neverShuts_4 rfl (lv_at hl 1 rfl) ?_
  refine va_iald hx hb hK hP 4 3 rfl rfl (z_vp hi0 rfl) dX4_neverShuts_5 ?_
  refine lv_topi (fun y_1 ey_1 => ?_)
  have h_2 : z_in 0 12 y_1 := by rw [ey_1]; exact hscff _
  refine lv_bipush (v := 12) hx hb dX4_neverShuts_6 (by decide) ?_
  refine lv_icmp_lt (tgt := 15) hx hb dX4_neverShuts_8 (by decide) (fun c_3 => ?_) (fun c_3 => ?_)
  · skip
    have h_4 : z_in 0 11 y_1 := z_ltL c_3 h_2 (z_lit (x := 12) (a := 12) (b := 12) rfl) rfl
    refine lv_iconst (v := 0) hx hb dX4_neverShuts_15 (by decide) ?_
    exact hret 0 ([(sc, .inr (4, [.ref tw, .int scd, .int sch, .int scs, .ref scp, .ref scw, .ref scc, .ref scf])), (scp, .inl (scpt, 7, .inl scpf)), (scw, .inl (scwt, 6, .inl scwf)), (scc, .inl (scct, 6, .inl sccf)), (scf, .inl (scft, 6, .inl scff)), (tw, .inr (8, [.ref twl, .ref twp, .ref twu, .int twe, .ref twh, .ref tws, .ref twg, .int twm, .ref two, .ref twd, .ref twq, .int twr])), (twl, .inr (2, [.ref twlc, .int twln])), (twlc, .inl (twlct, 5, .inr (.inl twlcf))), (twp, .inr (2, [.ref twpc, .int twpn])), (twpc, .inl (twpct, 7, .inr (.inl twpcf))), (twu, .inr (2, [.ref twuc, .int twun])), (twuc, .inl (twuct, 6, .inr (.inl twucf))), (twh, .inl (twht, 7, .inl twhf)), (tws, .inl (twst, 6, .inl twsf)), (twg, .inl (twgt, 6, .inl twgf)), (two, .inl (twot, 14, .inl twof)), (twd, .inl (twdt, 14, .inl twdf)), (twq, .inl (twqt, 14, .inl twqf))], []) _ _ _ _ dX4_neverShuts_16 (by decide) ⟨(z_w (c := 0) (d := 1) (z_lit (x := 0) (a := 0) (b := 0) rfl) rfl), rfl⟩ hP (hK.sub [] rfl) hD hS
  · skip
    have h_5 : z_in 12 12 y_1 := z_leR (Int32.not_lt.mp c_3) (z_lit (x := 12) (a := 12) (b := 12) rfl) h_2 rfl
    refine lv_iconst (v := 1) hx hb dX4_neverShuts_11 (by decide) ?_
    refine lv_goto (tgt := 16) hx hb dX4_neverShuts_12 (by decide) ?_
    exact hret 1 ([(sc, .inr (4, [.ref tw, .int scd, .int sch, .int scs, .ref scp, .ref scw, .ref scc, .ref scf])), (scp, .inl (scpt, 7, .inl scpf)), (scw, .inl (scwt, 6, .inl scwf)), (scc, .inl (scct, 6, .inl sccf)), (scf, .inl (scft, 6, .inl scff)), (tw, .inr (8, [.ref twl, .ref twp, .ref twu, .int twe, .ref twh, .ref tws, .ref twg, .int twm, .ref two, .ref twd, .ref twq, .int twr])), (twl, .inr (2, [.ref twlc, .int twln])), (twlc, .inl (twlct, 5, .inr (.inl twlcf))), (twp, .inr (2, [.ref twpc, .int twpn])), (twpc, .inl (twpct, 7, .inr (.inl twpcf))), (twu, .inr (2, [.ref twuc, .int twun])), (twuc, .inl (twuct, 6, .inr (.inl twucf))), (twh, .inl (twht, 7, .inl twhf)), (tws, .inl (twst, 6, .inl twsf)), (twg, .inl (twgt, 6, .inl twgf)), (two, .inl (twot, 14, .inl twof)), (twd, .inl (twdt, 14, .inl twdf)), (twq, .inl (twqt, 14, .inl twqf))], []) _ _ _ _ dX4_neverShuts_16 (by decide) ⟨(z_w (c := 0) (d := 1) (z_lit (x := 1) (a := 1) (b := 1) rfl) rfl), rfl⟩ hP (hK.sub [] rfl) hD hS
