theorem dX7_start_0 : decode cX7_start 0 = .ok (.aload_n 0, 1) := by decide +kernel
theorem dX7_start_1 : decode cX7_start 1 = .ok (.iload_n 1, 1) := by decide +kernel
theorem dX7_start_2 : decode cX7_start 2 = .ok (.putfield 24, 3) := by decide +kernel
theorem dX7_start_5 : decode cX7_start 5 = .ok (.aload_n 0, 1) := by decide +kernel
theorem dX7_start_6 : decode cX7_start 6 = .ok (.iconst 0, 1) := by decide +kernel
theorem dX7_start_7 : decode cX7_start 7 = .ok (.putfield 28, 3) := by decide +kernel
theorem dX7_start_10 : decode cX7_start 10 = .ok (.aload_n 0, 1) := by decide +kernel
theorem dX7_start_11 : decode cX7_start 11 = .ok (.iconst 0, 1) := by decide +kernel
theorem dX7_start_12 : decode cX7_start 12 = .ok (.putfield 31, 3) := by decide +kernel
theorem dX7_start_15 : decode cX7_start 15 = .ok (.aload_n 0, 1) := by decide +kernel
theorem dX7_start_16 : decode cX7_start 16 = .ok (.iconst 0, 1) := by decide +kernel
theorem dX7_start_17 : decode cX7_start 17 = .ok (.putfield 34, 3) := by decide +kernel
theorem dX7_start_20 : decode cX7_start 20 = .ok (.aload_n 0, 1) := by decide +kernel
theorem dX7_start_21 : decode cX7_start 21 = .ok (.invokevirtual 37, 3) := by decide +kernel
theorem dX7_start_24 : decode cX7_start 24 = .ok (.return_, 1) := by decide +kernel
theorem dX7_advance_0 : decode cX7_advance 0 = .ok (.aload_n 0, 1) := by decide +kernel
theorem dX7_advance_1 : decode cX7_advance 1 = .ok (.getfield 28, 3) := by decide +kernel
theorem dX7_advance_4 : decode cX7_advance 4 = .ok (.istore_n 1, 1) := by decide +kernel
theorem dX7_advance_5 : decode cX7_advance 5 = .ok (.iload_n 1, 1) := by decide +kernel
theorem dX7_advance_6 : decode cX7_advance 6 = .ok (.aload_n 0, 1) := by decide +kernel
theorem dX7_advance_7 : decode cX7_advance 7 = .ok (.getfield 20, 3) := by decide +kernel
theorem dX7_advance_10 : decode cX7_advance 10 = .ok (.getfield 40, 3) := by decide +kernel
theorem dX7_advance_13 : decode cX7_advance 13 = .ok (.if_icmp .ge 23, 3) := by decide +kernel
theorem dX7_advance_16 : decode cX7_advance 16 = .ok (.aload_n 0, 1) := by decide +kernel
theorem dX7_advance_17 : decode cX7_advance 17 = .ok (.getfield 20, 3) := by decide +kernel
theorem dX7_advance_20 : decode cX7_advance 20 = .ok (.iload_n 1, 1) := by decide +kernel
theorem dX7_advance_21 : decode cX7_advance 21 = .ok (.invokevirtual 45, 3) := by decide +kernel
theorem dX7_advance_24 : decode cX7_advance 24 = .ok (.invokestatic 49, 3) := by decide +kernel
theorem dX7_advance_27 : decode cX7_advance 27 = .ok (.ifCond .eq 9, 3) := by decide +kernel
theorem dX7_advance_30 : decode cX7_advance 30 = .ok (.iinc 1 1, 3) := by decide +kernel
theorem dX7_advance_33 : decode cX7_advance 33 = .ok (.goto (-28), 3) := by decide +kernel
theorem dX7_advance_36 : decode cX7_advance 36 = .ok (.aload_n 0, 1) := by decide +kernel
theorem dX7_advance_37 : decode cX7_advance 37 = .ok (.getstatic 9, 3) := by decide +kernel
theorem dX7_advance_40 : decode cX7_advance 40 = .ok (.putfield 15, 3) := by decide +kernel
theorem dX7_advance_43 : decode cX7_advance 43 = .ok (.aload_n 0, 1) := by decide +kernel
theorem dX7_advance_44 : decode cX7_advance 44 = .ok (.iconst 0, 1) := by decide +kernel
theorem dX7_advance_45 : decode cX7_advance 45 = .ok (.putfield 53, 3) := by decide +kernel
theorem dX7_advance_48 : decode cX7_advance 48 = .ok (.aload_n 0, 1) := by decide +kernel
theorem dX7_advance_49 : decode cX7_advance 49 = .ok (.lconst 0, 1) := by decide +kernel
theorem dX7_advance_50 : decode cX7_advance 50 = .ok (.putfield 56, 3) := by decide +kernel
theorem dX7_advance_53 : decode cX7_advance 53 = .ok (.iload_n 1, 1) := by decide +kernel
theorem dX7_advance_54 : decode cX7_advance 54 = .ok (.aload_n 0, 1) := by decide +kernel
theorem dX7_advance_55 : decode cX7_advance 55 = .ok (.getfield 20, 3) := by decide +kernel
theorem dX7_advance_58 : decode cX7_advance 58 = .ok (.getfield 40, 3) := by decide +kernel
theorem dX7_advance_61 : decode cX7_advance 61 = .ok (.if_icmp .ge 11, 3) := by decide +kernel
theorem dX7_advance_64 : decode cX7_advance 64 = .ok (.iload_n 1, 1) := by decide +kernel
theorem dX7_advance_65 : decode cX7_advance 65 = .ok (.aload_n 0, 1) := by decide +kernel
theorem dX7_advance_66 : decode cX7_advance 66 = .ok (.getfield 24, 3) := by decide +kernel
theorem dX7_advance_69 : decode cX7_advance 69 = .ok (.if_icmp .lt 10, 3) := by decide +kernel
theorem dX7_advance_72 : decode cX7_advance 72 = .ok (.aload_n 0, 1) := by decide +kernel
theorem dX7_advance_73 : decode cX7_advance 73 = .ok (.invokevirtual 60, 3) := by decide +kernel
theorem dX7_advance_76 : decode cX7_advance 76 = .ok (.goto 44, 3) := by decide +kernel
theorem dX7_advance_79 : decode cX7_advance 79 = .ok (.aload_n 0, 1) := by decide +kernel
theorem dX7_advance_80 : decode cX7_advance 80 = .ok (.getfield 20, 3) := by decide +kernel
theorem dX7_advance_83 : decode cX7_advance 83 = .ok (.iload_n 1, 1) := by decide +kernel
theorem dX7_advance_84 : decode cX7_advance 84 = .ok (.invokevirtual 45, 3) := by decide +kernel
theorem dX7_advance_87 : decode cX7_advance 87 = .ok (.invokestatic 63, 3) := by decide +kernel
theorem dX7_advance_90 : decode cX7_advance 90 = .ok (.ifCond .ne 17, 3) := by decide +kernel
theorem dX7_advance_93 : decode cX7_advance 93 = .ok (.aload_n 0, 1) := by decide +kernel
theorem dX7_advance_94 : decode cX7_advance 94 = .ok (.getfield 20, 3) := by decide +kernel
theorem dX7_advance_97 : decode cX7_advance 97 = .ok (.iload_n 1, 1) := by decide +kernel
theorem dX7_advance_98 : decode cX7_advance 98 = .ok (.invokevirtual 45, 3) := by decide +kernel
theorem dX7_advance_101 : decode cX7_advance 101 = .ok (.invokestatic 66, 3) := by decide +kernel
theorem dX7_advance_104 : decode cX7_advance 104 = .ok (.ifCond .eq 11, 3) := by decide +kernel
theorem dX7_advance_107 : decode cX7_advance 107 = .ok (.aload_n 0, 1) := by decide +kernel
theorem dX7_advance_108 : decode cX7_advance 108 = .ok (.iload_n 1, 1) := by decide +kernel
theorem dX7_advance_109 : decode cX7_advance 109 = .ok (.invokevirtual 69, 3) := by decide +kernel
theorem dX7_advance_112 : decode cX7_advance 112 = .ok (.goto 8, 3) := by decide +kernel
theorem dX7_advance_115 : decode cX7_advance 115 = .ok (.aload_n 0, 1) := by decide +kernel
theorem dX7_advance_116 : decode cX7_advance 116 = .ok (.iload_n 1, 1) := by decide +kernel
theorem dX7_advance_117 : decode cX7_advance 117 = .ok (.invokevirtual 73, 3) := by decide +kernel
theorem dX7_advance_120 : decode cX7_advance 120 = .ok (.return_, 1) := by decide +kernel
theorem dX7_stop_0 : decode cX7_stop 0 = .ok (.aload_n 0, 1) := by decide +kernel
theorem dX7_stop_1 : decode cX7_stop 1 = .ok (.aload_n 0, 1) := by decide +kernel
theorem dX7_stop_2 : decode cX7_stop 2 = .ok (.getfield 20, 3) := by decide +kernel
theorem dX7_stop_5 : decode cX7_stop 5 = .ok (.getfield 40, 3) := by decide +kernel
theorem dX7_stop_8 : decode cX7_stop 8 = .ok (.aload_n 0, 1) := by decide +kernel
theorem dX7_stop_9 : decode cX7_stop 9 = .ok (.getfield 24, 3) := by decide +kernel
theorem dX7_stop_12 : decode cX7_stop 12 = .ok (.if_icmp .le 7, 3) := by decide +kernel
theorem dX7_stop_15 : decode cX7_stop 15 = .ok (.iconst 1, 1) := by decide +kernel
theorem dX7_stop_16 : decode cX7_stop 16 = .ok (.goto 4, 3) := by decide +kernel
theorem dX7_stop_19 : decode cX7_stop 19 = .ok (.iconst 0, 1) := by decide +kernel
theorem dX7_stop_20 : decode cX7_stop 20 = .ok (.putfield 76, 3) := by decide +kernel
theorem dX7_stop_23 : decode cX7_stop 23 = .ok (.aload_n 0, 1) := by decide +kernel
theorem dX7_stop_24 : decode cX7_stop 24 = .ok (.aload_n 0, 1) := by decide +kernel
theorem dX7_stop_25 : decode cX7_stop 25 = .ok (.getfield 20, 3) := by decide +kernel
theorem dX7_stop_28 : decode cX7_stop 28 = .ok (.getfield 40, 3) := by decide +kernel
theorem dX7_stop_31 : decode cX7_stop 31 = .ok (.aload_n 0, 1) := by decide +kernel
theorem dX7_stop_32 : decode cX7_stop 32 = .ok (.getfield 24, 3) := by decide +kernel
theorem dX7_stop_35 : decode cX7_stop 35 = .ok (.invokestatic 79, 3) := by decide +kernel
theorem dX7_stop_38 : decode cX7_stop 38 = .ok (.putfield 85, 3) := by decide +kernel
theorem dX7_stop_41 : decode cX7_stop 41 = .ok (.aload_n 0, 1) := by decide +kernel
theorem dX7_stop_42 : decode cX7_stop 42 = .ok (.aload_n 0, 1) := by decide +kernel
theorem dX7_stop_43 : decode cX7_stop 43 = .ok (.getfield 20, 3) := by decide +kernel
theorem dX7_stop_46 : decode cX7_stop 46 = .ok (.getfield 40, 3) := by decide +kernel
theorem dX7_stop_49 : decode cX7_stop 49 = .ok (.putfield 28, 3) := by decide +kernel
theorem dX7_stop_52 : decode cX7_stop 52 = .ok (.return_, 1) := by decide +kernel
theorem dX7_readRun_0 : decode cX7_readRun 0 = .ok (.iconst 0, 1) := by decide +kernel
theorem dX7_readRun_1 : decode cX7_readRun 1 = .ok (.istore_n 2, 1) := by decide +kernel
theorem dX7_readRun_2 : decode cX7_readRun 2 = .ok (.iload_n 1, 1) := by decide +kernel
theorem dX7_readRun_3 : decode cX7_readRun 3 = .ok (.istore_n 3, 1) := by decide +kernel
theorem dX7_readRun_4 : decode cX7_readRun 4 = .ok (.iload_n 3, 1) := by decide +kernel
theorem dX7_readRun_5 : decode cX7_readRun 5 = .ok (.aload_n 0, 1) := by decide +kernel
theorem dX7_readRun_6 : decode cX7_readRun 6 = .ok (.getfield 20, 3) := by decide +kernel
theorem dX7_readRun_9 : decode cX7_readRun 9 = .ok (.getfield 40, 3) := by decide +kernel
theorem dX7_readRun_12 : decode cX7_readRun 12 = .ok (.if_icmp .ge 99, 3) := by decide +kernel
theorem dX7_readRun_15 : decode cX7_readRun 15 = .ok (.aload_n 0, 1) := by decide +kernel
theorem dX7_readRun_16 : decode cX7_readRun 16 = .ok (.getfield 20, 3) := by decide +kernel
theorem dX7_readRun_19 : decode cX7_readRun 19 = .ok (.iload_n 3, 1) := by decide +kernel
theorem dX7_readRun_20 : decode cX7_readRun 20 = .ok (.invokevirtual 45, 3) := by decide +kernel
theorem dX7_readRun_23 : decode cX7_readRun 23 = .ok (.invokestatic 63, 3) := by decide +kernel
theorem dX7_readRun_26 : decode cX7_readRun 26 = .ok (.ifCond .ne 17, 3) := by decide +kernel
theorem dX7_readRun_29 : decode cX7_readRun 29 = .ok (.aload_n 0, 1) := by decide +kernel
theorem dX7_readRun_30 : decode cX7_readRun 30 = .ok (.getfield 20, 3) := by decide +kernel
theorem dX7_readRun_33 : decode cX7_readRun 33 = .ok (.iload_n 3, 1) := by decide +kernel
theorem dX7_readRun_34 : decode cX7_readRun 34 = .ok (.invokevirtual 45, 3) := by decide +kernel
theorem dX7_readRun_37 : decode cX7_readRun 37 = .ok (.invokestatic 66, 3) := by decide +kernel
theorem dX7_readRun_40 : decode cX7_readRun 40 = .ok (.ifCond .eq 71, 3) := by decide +kernel
theorem dX7_readRun_43 : decode cX7_readRun 43 = .ok (.aload_n 0, 1) := by decide +kernel
theorem dX7_readRun_44 : decode cX7_readRun 44 = .ok (.getfield 20, 3) := by decide +kernel
theorem dX7_readRun_47 : decode cX7_readRun 47 = .ok (.iload_n 3, 1) := by decide +kernel
theorem dX7_readRun_48 : decode cX7_readRun 48 = .ok (.invokevirtual 45, 3) := by decide +kernel
theorem dX7_readRun_51 : decode cX7_readRun 51 = .ok (.invokestatic 63, 3) := by decide +kernel
theorem dX7_readRun_54 : decode cX7_readRun 54 = .ok (.ifCond .eq 28, 3) := by decide +kernel
theorem dX7_readRun_57 : decode cX7_readRun 57 = .ok (.aload_n 0, 1) := by decide +kernel
theorem dX7_readRun_58 : decode cX7_readRun 58 = .ok (.aload_n 0, 1) := by decide +kernel
theorem dX7_readRun_59 : decode cX7_readRun 59 = .ok (.getfield 56, 3) := by decide +kernel
theorem dX7_readRun_62 : decode cX7_readRun 62 = .ok (.aload_n 0, 1) := by decide +kernel
theorem dX7_readRun_63 : decode cX7_readRun 63 = .ok (.getfield 20, 3) := by decide +kernel
theorem dX7_readRun_66 : decode cX7_readRun 66 = .ok (.iload_n 3, 1) := by decide +kernel
theorem dX7_readRun_67 : decode cX7_readRun 67 = .ok (.invokevirtual 45, 3) := by decide +kernel
theorem dX7_readRun_70 : decode cX7_readRun 70 = .ok (.invokestatic 88, 3) := by decide +kernel
theorem dX7_readRun_73 : decode cX7_readRun 73 = .ok (.putfield 56, 3) := by decide +kernel
theorem dX7_readRun_76 : decode cX7_readRun 76 = .ok (.iinc 2 1, 3) := by decide +kernel
theorem dX7_readRun_79 : decode cX7_readRun 79 = .ok (.goto 26, 3) := by decide +kernel
theorem dX7_readRun_82 : decode cX7_readRun 82 = .ok (.aload_n 0, 1) := by decide +kernel
theorem dX7_readRun_83 : decode cX7_readRun 83 = .ok (.aload_n 0, 1) := by decide +kernel
theorem dX7_readRun_84 : decode cX7_readRun 84 = .ok (.getfield 53, 3) := by decide +kernel
theorem dX7_readRun_87 : decode cX7_readRun 87 = .ok (.bipush 10, 2) := by decide +kernel
theorem dX7_readRun_89 : decode cX7_readRun 89 = .ok (.imul, 1) := by decide +kernel
theorem dX7_readRun_90 : decode cX7_readRun 90 = .ok (.aload_n 0, 1) := by decide +kernel
theorem dX7_readRun_91 : decode cX7_readRun 91 = .ok (.getfield 20, 3) := by decide +kernel
theorem dX7_readRun_94 : decode cX7_readRun 94 = .ok (.iload_n 3, 1) := by decide +kernel
theorem dX7_readRun_95 : decode cX7_readRun 95 = .ok (.invokevirtual 45, 3) := by decide +kernel
theorem dX7_readRun_98 : decode cX7_readRun 98 = .ok (.bipush 48, 2) := by decide +kernel
theorem dX7_readRun_100 : decode cX7_readRun 100 = .ok (.isub, 1) := by decide +kernel
theorem dX7_readRun_101 : decode cX7_readRun 101 = .ok (.iadd, 1) := by decide +kernel
theorem dX7_readRun_102 : decode cX7_readRun 102 = .ok (.putfield 53, 3) := by decide +kernel
theorem dX7_readRun_105 : decode cX7_readRun 105 = .ok (.iinc 3 1, 3) := by decide +kernel
theorem dX7_readRun_108 : decode cX7_readRun 108 = .ok (.goto (-104), 3) := by decide +kernel
theorem dX7_readRun_111 : decode cX7_readRun 111 = .ok (.aload_n 0, 1) := by decide +kernel
theorem dX7_readRun_112 : decode cX7_readRun 112 = .ok (.iload_n 1, 1) := by decide +kernel
theorem dX7_readRun_113 : decode cX7_readRun 113 = .ok (.putfield 85, 3) := by decide +kernel
theorem dX7_readRun_116 : decode cX7_readRun 116 = .ok (.aload_n 0, 1) := by decide +kernel
theorem dX7_readRun_117 : decode cX7_readRun 117 = .ok (.iload_n 3, 1) := by decide +kernel
theorem dX7_readRun_118 : decode cX7_readRun 118 = .ok (.putfield 28, 3) := by decide +kernel
theorem dX7_readRun_121 : decode cX7_readRun 121 = .ok (.aload_n 0, 1) := by decide +kernel
theorem dX7_readRun_122 : decode cX7_readRun 122 = .ok (.iload_n 2, 1) := by decide +kernel
theorem dX7_readRun_123 : decode cX7_readRun 123 = .ok (.iload_n 3, 1) := by decide +kernel
theorem dX7_readRun_124 : decode cX7_readRun 124 = .ok (.iload_n 1, 1) := by decide +kernel
theorem dX7_readRun_125 : decode cX7_readRun 125 = .ok (.isub, 1) := by decide +kernel
theorem dX7_readRun_126 : decode cX7_readRun 126 = .ok (.iload_n 2, 1) := by decide +kernel
theorem dX7_readRun_127 : decode cX7_readRun 127 = .ok (.isub, 1) := by decide +kernel
theorem dX7_readRun_128 : decode cX7_readRun 128 = .ok (.invokestatic 92, 3) := by decide +kernel
theorem dX7_readRun_131 : decode cX7_readRun 131 = .ok (.putfield 76, 3) := by decide +kernel
theorem dX7_readRun_134 : decode cX7_readRun 134 = .ok (.aload_n 0, 1) := by decide +kernel
theorem dX7_readRun_135 : decode cX7_readRun 135 = .ok (.getfield 76, 3) := by decide +kernel
theorem dX7_readRun_138 : decode cX7_readRun 138 = .ok (.iconst 4, 1) := by decide +kernel
theorem dX7_readRun_139 : decode cX7_readRun 139 = .ok (.if_icmp .ne 14, 3) := by decide +kernel
theorem dX7_readRun_142 : decode cX7_readRun 142 = .ok (.aload_n 0, 1) := by decide +kernel
theorem dX7_readRun_143 : decode cX7_readRun 143 = .ok (.aload_n 0, 1) := by decide +kernel
theorem dX7_readRun_144 : decode cX7_readRun 144 = .ok (.getfield 56, 3) := by decide +kernel
theorem dX7_readRun_147 : decode cX7_readRun 147 = .ok (.invokestatic 95, 3) := by decide +kernel
theorem dX7_readRun_150 : decode cX7_readRun 150 = .ok (.putfield 15, 3) := by decide +kernel
theorem dX7_readRun_153 : decode cX7_readRun 153 = .ok (.return_, 1) := by decide +kernel
theorem dX7_kindOfRun_0 : decode cX7_kindOfRun 0 = .ok (.iload_n 1, 1) := by decide +kernel
theorem dX7_kindOfRun_1 : decode cX7_kindOfRun 1 = .ok (.ifCond .ne 11, 3) := by decide +kernel
theorem dX7_kindOfRun_4 : decode cX7_kindOfRun 4 = .ok (.iload_n 0, 1) := by decide +kernel
theorem dX7_kindOfRun_5 : decode cX7_kindOfRun 5 = .ok (.bipush 7, 2) := by decide +kernel
theorem dX7_kindOfRun_7 : decode cX7_kindOfRun 7 = .ok (.if_icmp .gt 5, 3) := by decide +kernel
theorem dX7_kindOfRun_10 : decode cX7_kindOfRun 10 = .ok (.iconst 4, 1) := by decide +kernel
theorem dX7_kindOfRun_11 : decode cX7_kindOfRun 11 = .ok (.ireturn, 1) := by decide +kernel
theorem dX7_kindOfRun_12 : decode cX7_kindOfRun 12 = .ok (.iload_n 0, 1) := by decide +kernel
theorem dX7_kindOfRun_13 : decode cX7_kindOfRun 13 = .ok (.ifCond .ne 12, 3) := by decide +kernel
theorem dX7_kindOfRun_16 : decode cX7_kindOfRun 16 = .ok (.iload_n 1, 1) := by decide +kernel
theorem dX7_kindOfRun_17 : decode cX7_kindOfRun 17 = .ok (.iconst 3, 1) := by decide +kernel
theorem dX7_kindOfRun_18 : decode cX7_kindOfRun 18 = .ok (.if_icmp .gt 7, 3) := by decide +kernel
theorem dX7_kindOfRun_21 : decode cX7_kindOfRun 21 = .ok (.iconst 3, 1) := by decide +kernel
theorem dX7_kindOfRun_22 : decode cX7_kindOfRun 22 = .ok (.goto 4, 3) := by decide +kernel
theorem dX7_kindOfRun_25 : decode cX7_kindOfRun 25 = .ok (.iconst 1, 1) := by decide +kernel
theorem dX7_kindOfRun_26 : decode cX7_kindOfRun 26 = .ok (.ireturn, 1) := by decide +kernel
theorem dX7_readSign_0 : decode cX7_readSign 0 = .ok (.aload_n 0, 1) := by decide +kernel
theorem dX7_readSign_1 : decode cX7_readSign 1 = .ok (.getfield 20, 3) := by decide +kernel
theorem dX7_readSign_4 : decode cX7_readSign 4 = .ok (.iload_n 1, 1) := by decide +kernel
theorem dX7_readSign_5 : decode cX7_readSign 5 = .ok (.invokevirtual 45, 3) := by decide +kernel
theorem dX7_readSign_8 : decode cX7_readSign 8 = .ok (.istore_n 2, 1) := by decide +kernel
theorem dX7_readSign_9 : decode cX7_readSign 9 = .ok (.iload_n 2, 1) := by decide +kernel
theorem dX7_readSign_10 : decode cX7_readSign 10 = .ok (.bipush 59, 2) := by decide +kernel
theorem dX7_readSign_12 : decode cX7_readSign 12 = .ok (.if_icmp .eq 33, 3) := by decide +kernel
theorem dX7_readSign_15 : decode cX7_readSign 15 = .ok (.iload_n 2, 1) := by decide +kernel
theorem dX7_readSign_16 : decode cX7_readSign 16 = .ok (.bipush 60, 2) := by decide +kernel
theorem dX7_readSign_18 : decode cX7_readSign 18 = .ok (.if_icmp .eq 27, 3) := by decide +kernel
theorem dX7_readSign_21 : decode cX7_readSign 21 = .ok (.iload_n 2, 1) := by decide +kernel
theorem dX7_readSign_22 : decode cX7_readSign 22 = .ok (.bipush 61, 2) := by decide +kernel
theorem dX7_readSign_24 : decode cX7_readSign 24 = .ok (.if_icmp .eq 21, 3) := by decide +kernel
theorem dX7_readSign_27 : decode cX7_readSign 27 = .ok (.iload_n 2, 1) := by decide +kernel
theorem dX7_readSign_28 : decode cX7_readSign 28 = .ok (.bipush 62, 2) := by decide +kernel
theorem dX7_readSign_30 : decode cX7_readSign 30 = .ok (.if_icmp .eq 15, 3) := by decide +kernel
theorem dX7_readSign_33 : decode cX7_readSign 33 = .ok (.iload_n 2, 1) := by decide +kernel
theorem dX7_readSign_34 : decode cX7_readSign 34 = .ok (.bipush 40, 2) := by decide +kernel
theorem dX7_readSign_36 : decode cX7_readSign 36 = .ok (.if_icmp .eq 9, 3) := by decide +kernel
theorem dX7_readSign_39 : decode cX7_readSign 39 = .ok (.iload_n 2, 1) := by decide +kernel
theorem dX7_readSign_40 : decode cX7_readSign 40 = .ok (.bipush 41, 2) := by decide +kernel
theorem dX7_readSign_42 : decode cX7_readSign 42 = .ok (.if_icmp .ne 7, 3) := by decide +kernel
theorem dX7_readSign_45 : decode cX7_readSign 45 = .ok (.iconst 1, 1) := by decide +kernel
theorem dX7_readSign_46 : decode cX7_readSign 46 = .ok (.goto 4, 3) := by decide +kernel
theorem dX7_readSign_49 : decode cX7_readSign 49 = .ok (.iconst 0, 1) := by decide +kernel
theorem dX7_readSign_50 : decode cX7_readSign 50 = .ok (.istore_n 3, 1) := by decide +kernel
theorem dX7_readSign_51 : decode cX7_readSign 51 = .ok (.aload_n 0, 1) := by decide +kernel
theorem dX7_readSign_52 : decode cX7_readSign 52 = .ok (.iload_n 3, 1) := by decide +kernel
theorem dX7_readSign_53 : decode cX7_readSign 53 = .ok (.ifCond .eq 7, 3) := by decide +kernel
theorem dX7_readSign_56 : decode cX7_readSign 56 = .ok (.iconst 2, 1) := by decide +kernel
theorem dX7_readSign_57 : decode cX7_readSign 57 = .ok (.goto 4, 3) := by decide +kernel
theorem dX7_readSign_60 : decode cX7_readSign 60 = .ok (.iconst 1, 1) := by decide +kernel
theorem dX7_readSign_61 : decode cX7_readSign 61 = .ok (.putfield 76, 3) := by decide +kernel
theorem dX7_readSign_64 : decode cX7_readSign 64 = .ok (.aload_n 0, 1) := by decide +kernel
theorem dX7_readSign_65 : decode cX7_readSign 65 = .ok (.iload_n 2, 1) := by decide +kernel
theorem dX7_readSign_66 : decode cX7_readSign 66 = .ok (.putfield 53, 3) := by decide +kernel
theorem dX7_readSign_69 : decode cX7_readSign 69 = .ok (.aload_n 0, 1) := by decide +kernel
theorem dX7_readSign_70 : decode cX7_readSign 70 = .ok (.iload_n 1, 1) := by decide +kernel
theorem dX7_readSign_71 : decode cX7_readSign 71 = .ok (.putfield 85, 3) := by decide +kernel
theorem dX7_readSign_74 : decode cX7_readSign 74 = .ok (.aload_n 0, 1) := by decide +kernel
theorem dX7_readSign_75 : decode cX7_readSign 75 = .ok (.iload_n 1, 1) := by decide +kernel
theorem dX7_readSign_76 : decode cX7_readSign 76 = .ok (.iconst 1, 1) := by decide +kernel
theorem dX7_readSign_77 : decode cX7_readSign 77 = .ok (.iadd, 1) := by decide +kernel
theorem dX7_readSign_78 : decode cX7_readSign 78 = .ok (.putfield 28, 3) := by decide +kernel
theorem dX7_readSign_81 : decode cX7_readSign 81 = .ok (.return_, 1) := by decide +kernel
theorem dX7_isBlank_0 : decode cX7_isBlank 0 = .ok (.iload_n 0, 1) := by decide +kernel
theorem dX7_isBlank_1 : decode cX7_isBlank 1 = .ok (.bipush 32, 2) := by decide +kernel
theorem dX7_isBlank_3 : decode cX7_isBlank 3 = .ok (.if_icmp .eq 9, 3) := by decide +kernel
theorem dX7_isBlank_6 : decode cX7_isBlank 6 = .ok (.iload_n 0, 1) := by decide +kernel
theorem dX7_isBlank_7 : decode cX7_isBlank 7 = .ok (.bipush 10, 2) := by decide +kernel
theorem dX7_isBlank_9 : decode cX7_isBlank 9 = .ok (.if_icmp .ne 7, 3) := by decide +kernel
theorem dX7_isBlank_12 : decode cX7_isBlank 12 = .ok (.iconst 1, 1) := by decide +kernel
theorem dX7_isBlank_13 : decode cX7_isBlank 13 = .ok (.goto 4, 3) := by decide +kernel
theorem dX7_isBlank_16 : decode cX7_isBlank 16 = .ok (.iconst 0, 1) := by decide +kernel
theorem dX7_isBlank_17 : decode cX7_isBlank 17 = .ok (.ireturn, 1) := by decide +kernel
theorem dX7_isLetter_0 : decode cX7_isLetter 0 = .ok (.iload_n 0, 1) := by decide +kernel
theorem dX7_isLetter_1 : decode cX7_isLetter 1 = .ok (.bipush 97, 2) := by decide +kernel
theorem dX7_isLetter_3 : decode cX7_isLetter 3 = .ok (.if_icmp .lt 13, 3) := by decide +kernel
theorem dX7_isLetter_6 : decode cX7_isLetter 6 = .ok (.iload_n 0, 1) := by decide +kernel
theorem dX7_isLetter_7 : decode cX7_isLetter 7 = .ok (.bipush 122, 2) := by decide +kernel
theorem dX7_isLetter_9 : decode cX7_isLetter 9 = .ok (.if_icmp .gt 7, 3) := by decide +kernel
theorem dX7_isLetter_12 : decode cX7_isLetter 12 = .ok (.iconst 1, 1) := by decide +kernel
theorem dX7_isLetter_13 : decode cX7_isLetter 13 = .ok (.goto 4, 3) := by decide +kernel
theorem dX7_isLetter_16 : decode cX7_isLetter 16 = .ok (.iconst 0, 1) := by decide +kernel
theorem dX7_isLetter_17 : decode cX7_isLetter 17 = .ok (.ireturn, 1) := by decide +kernel
theorem dX7_isDigit_0 : decode cX7_isDigit 0 = .ok (.iload_n 0, 1) := by decide +kernel
theorem dX7_isDigit_1 : decode cX7_isDigit 1 = .ok (.bipush 48, 2) := by decide +kernel
theorem dX7_isDigit_3 : decode cX7_isDigit 3 = .ok (.if_icmp .lt 13, 3) := by decide +kernel
theorem dX7_isDigit_6 : decode cX7_isDigit 6 = .ok (.iload_n 0, 1) := by decide +kernel
theorem dX7_isDigit_7 : decode cX7_isDigit 7 = .ok (.bipush 57, 2) := by decide +kernel
theorem dX7_isDigit_9 : decode cX7_isDigit 9 = .ok (.if_icmp .gt 7, 3) := by decide +kernel
theorem dX7_isDigit_12 : decode cX7_isDigit 12 = .ok (.iconst 1, 1) := by decide +kernel
theorem dX7_isDigit_13 : decode cX7_isDigit 13 = .ok (.goto 4, 3) := by decide +kernel
theorem dX7_isDigit_16 : decode cX7_isDigit 16 = .ok (.iconst 0, 1) := by decide +kernel
theorem dX7_isDigit_17 : decode cX7_isDigit 17 = .ok (.ireturn, 1) := by decide +kernel
theorem dX7_isEnd_0 : decode cX7_isEnd 0 = .ok (.aload_n 0, 1) := by decide +kernel
theorem dX7_isEnd_1 : decode cX7_isEnd 1 = .ok (.getfield 76, 3) := by decide +kernel
theorem dX7_isEnd_4 : decode cX7_isEnd 4 = .ok (.ifCond .ne 7, 3) := by decide +kernel
theorem dX7_isEnd_7 : decode cX7_isEnd 7 = .ok (.iconst 1, 1) := by decide +kernel
theorem dX7_isEnd_8 : decode cX7_isEnd 8 = .ok (.goto 4, 3) := by decide +kernel
theorem dX7_isEnd_11 : decode cX7_isEnd 11 = .ok (.iconst 0, 1) := by decide +kernel
theorem dX7_isEnd_12 : decode cX7_isEnd 12 = .ok (.ireturn, 1) := by decide +kernel
theorem dX9_withLetter_0 : decode cX9_withLetter 0 = .ok (.lload_n 0, 1) := by decide +kernel
theorem dX9_withLetter_1 : decode cX9_withLetter 1 = .ok (.iconst 5, 1) := by decide +kernel
theorem dX9_withLetter_2 : decode cX9_withLetter 2 = .ok (.lshl, 1) := by decide +kernel
theorem dX9_withLetter_3 : decode cX9_withLetter 3 = .ok (.iload_n 2, 1) := by decide +kernel
theorem dX9_withLetter_4 : decode cX9_withLetter 4 = .ok (.bipush 97, 2) := by decide +kernel
theorem dX9_withLetter_6 : decode cX9_withLetter 6 = .ok (.isub, 1) := by decide +kernel
theorem dX9_withLetter_7 : decode cX9_withLetter 7 = .ok (.iconst 1, 1) := by decide +kernel
theorem dX9_withLetter_8 : decode cX9_withLetter 8 = .ok (.iadd, 1) := by decide +kernel
theorem dX9_withLetter_9 : decode cX9_withLetter 9 = .ok (.i2l, 1) := by decide +kernel
theorem dX9_withLetter_10 : decode cX9_withLetter 10 = .ok (.lor, 1) := by decide +kernel
theorem dX9_withLetter_11 : decode cX9_withLetter 11 = .ok (.lreturn, 1) := by decide +kernel
theorem dX9_withCode_0 : decode cX9_withCode 0 = .ok (.iconst 0, 1) := by decide +kernel
theorem dX9_withCode_1 : decode cX9_withCode 1 = .ok (.istore_n 2, 1) := by decide +kernel
theorem dX9_withCode_2 : decode cX9_withCode 2 = .ok (.iload_n 2, 1) := by decide +kernel
theorem dX9_withCode_3 : decode cX9_withCode 3 = .ok (.getstatic 111, 3) := by decide +kernel
theorem dX9_withCode_6 : decode cX9_withCode 6 = .ok (.arraylength, 1) := by decide +kernel
theorem dX9_withCode_7 : decode cX9_withCode 7 = .ok (.if_icmp .ge 28, 3) := by decide +kernel
theorem dX9_withCode_10 : decode cX9_withCode 10 = .ok (.getstatic 111, 3) := by decide +kernel
theorem dX9_withCode_13 : decode cX9_withCode 13 = .ok (.iload_n 2, 1) := by decide +kernel
theorem dX9_withCode_14 : decode cX9_withCode 14 = .ok (.aaload, 1) := by decide +kernel
theorem dX9_withCode_15 : decode cX9_withCode 15 = .ok (.getfield 93, 3) := by decide +kernel
theorem dX9_withCode_18 : decode cX9_withCode 18 = .ok (.lload_n 0, 1) := by decide +kernel
theorem dX9_withCode_19 : decode cX9_withCode 19 = .ok (.lcmp, 1) := by decide +kernel
theorem dX9_withCode_20 : decode cX9_withCode 20 = .ok (.ifCond .ne 9, 3) := by decide +kernel
theorem dX9_withCode_23 : decode cX9_withCode 23 = .ok (.getstatic 111, 3) := by decide +kernel
theorem dX9_withCode_26 : decode cX9_withCode 26 = .ok (.iload_n 2, 1) := by decide +kernel
theorem dX9_withCode_27 : decode cX9_withCode 27 = .ok (.aaload, 1) := by decide +kernel
theorem dX9_withCode_28 : decode cX9_withCode 28 = .ok (.areturn, 1) := by decide +kernel
theorem dX9_withCode_29 : decode cX9_withCode 29 = .ok (.iinc 2 1, 3) := by decide +kernel
theorem dX9_withCode_32 : decode cX9_withCode 32 = .ok (.goto (-30), 3) := by decide +kernel
theorem dX9_withCode_35 : decode cX9_withCode 35 = .ok (.getstatic 3, 3) := by decide +kernel
theorem dX9_withCode_38 : decode cX9_withCode 38 = .ok (.areturn, 1) := by decide +kernel
set_option maxRecDepth 20000 in
theorem ggX7_start_X7_advance : GoodIn wsX7_start wsX7_advance := goodIn_r _ [9, 2, 10, 11, 12, 13, 14, 15, 1, 16, 17, 18, 19, 20, 21, 22, 23, 24, 8, 25, 26, 27, 28, 29, 30, 31, 32, 33, 34, 35, 36, 37, 38, 39, 40, 41, 42, 43, 44, 45, 46, 47, 48, 49, 50, 51, 52, 53, 54, 55, 56, 57, 58, 59, 60, 61, 62, 63, 64, 65, 66, 67, 68, 69, 70, 71, 72, 73, 74] rfl (by decide +kernel)
set_option maxRecDepth 20000 in
theorem gX7_start_X7_advance : GoodIn wsX7_start (wsV RX7 37 RX7 yX7_advance wsX7_advance) := goodIn_app (a := [.methodLink RX7 37 yX7_advance, .instanceMethod yX7_advance, .selects RX7 yX7_advance yX7_advance, .initialized RX7]) (have hq0 : ∀ w, w ∈ wsX7_start_r1 → w ∈ wsX7_start := fun _ h9 => (List.mem_cons_of_mem _ (List.mem_append_left _ (List.mem_append_left _ (List.mem_append_left _ h9)))); (g_c9 (hq0 _ (List.mem_of_getElem? (i := 4) rfl)) rfl (g_c9 (hq0 _ (List.mem_of_getElem? (i := 5) rfl)) rfl (g_c9 (hq0 _ (List.mem_of_getElem? (i := 6) rfl)) rfl (g_c9 (hq0 _ (List.mem_of_getElem? (i := 7) rfl)) rfl g_n9))))) ggX7_start_X7_advance
set_option maxRecDepth 20000 in
theorem ggX7_advance_X6_get : GoodIn wsX7_advance wsX6_get := goodIn_r _ [13, 14, 15, 67, 68] rfl (by decide +kernel)
set_option maxRecDepth 20000 in
theorem gX7_advance_X6_get : GoodIn wsX7_advance (wsV RX7 45 RX6 yX6_get wsX6_get) := goodIn_app (a := [.methodLink RX7 45 yX6_get, .instanceMethod yX6_get, .selects RX6 yX6_get yX6_get, .initialized RX6]) (have hq0 : ∀ w, w ∈ wsX7_advance_r1 → w ∈ wsX7_advance := fun _ h9 => (List.mem_cons_of_mem _ (List.mem_append_left _ (List.mem_append_left _ (List.mem_append_left _ h9)))); (g_c9 (hq0 _ (List.mem_of_getElem? (i := 8) rfl)) rfl (g_c9 (hq0 _ (List.mem_of_getElem? (i := 9) rfl)) rfl (g_c9 (hq0 _ (List.mem_of_getElem? (i := 10) rfl)) rfl (g_c9 (hq0 _ (List.mem_of_getElem? (i := 11) rfl)) rfl g_n9))))) ggX7_advance_X6_get
set_option maxRecDepth 20000 in
theorem ggX7_advance_X7_isBlank : GoodIn wsX7_advance wsX7_isBlank := goodIn_r _ [19] rfl (by decide +kernel)
set_option maxRecDepth 20000 in
theorem gX7_advance_X7_isBlank : GoodIn wsX7_advance (va_wsS RX7 49 yX7_isBlank wsX7_isBlank) := goodIn_app (goodIn_of _ (by decide +kernel)) ggX7_advance_X7_isBlank
set_option maxRecDepth 20000 in
theorem ggX7_advance_X7_stop : GoodIn wsX7_advance wsX7_stop := goodIn_r _ [23, 2, 3, 8, 24, 25, 26, 27, 28, 29, 1, 57, 58, 59, 60, 61, 62, 63, 64, 65, 66, 67, 68] rfl (by decide +kernel)
set_option maxRecDepth 20000 in
theorem gX7_advance_X7_stop : GoodIn wsX7_advance (wsV RX7 60 RX7 yX7_stop wsX7_stop) := goodIn_app (a := [.methodLink RX7 60 yX7_stop, .instanceMethod yX7_stop, .selects RX7 yX7_stop yX7_stop, .initialized RX7]) (have hq0 : ∀ w, w ∈ wsX7_advance_r1 → w ∈ wsX7_advance := fun _ h9 => (List.mem_cons_of_mem _ (List.mem_append_left _ (List.mem_append_left _ (List.mem_append_left _ h9)))); (g_c9 (hq0 _ (List.mem_of_getElem? (i := 19) rfl)) rfl (g_c9 (hq0 _ (List.mem_of_getElem? (i := 20) rfl)) rfl (g_c9 (hq0 _ (List.mem_of_getElem? (i := 21) rfl)) rfl (g_c9 (hq0 _ (List.mem_of_getElem? (i := 17) rfl)) rfl g_n9))))) ggX7_advance_X7_stop
set_option maxRecDepth 20000 in
theorem ggX7_advance_X7_isLetter : GoodIn wsX7_advance wsX7_isLetter := goodIn_r _ [32] rfl (by decide +kernel)
set_option maxRecDepth 20000 in
theorem gX7_advance_X7_isLetter : GoodIn wsX7_advance (va_wsS RX7 63 yX7_isLetter wsX7_isLetter) := goodIn_app (goodIn_of _ (by decide +kernel)) ggX7_advance_X7_isLetter
set_option maxRecDepth 20000 in
theorem ggX7_advance_X7_isDigit : GoodIn wsX7_advance wsX7_isDigit := goodIn_r _ [35] rfl (by decide +kernel)
set_option maxRecDepth 20000 in
theorem gX7_advance_X7_isDigit : GoodIn wsX7_advance (va_wsS RX7 66 yX7_isDigit wsX7_isDigit) := goodIn_app (goodIn_of _ (by decide +kernel)) ggX7_advance_X7_isDigit
set_option maxRecDepth 20000 in
theorem ggX7_advance_X7_readRun : GoodIn wsX7_advance wsX7_readRun := goodIn_r _ [39, 2, 3, 7, 6, 29, 1, 24, 5, 9, 10, 11, 12, 13, 14, 15, 30, 31, 18, 32, 33, 34, 35, 40, 41, 42, 43, 44, 45, 46, 47, 48, 49, 50, 51, 52, 57, 58, 59, 60, 61, 62, 63, 64, 65, 66, 67, 68] rfl (by decide +kernel)
set_option maxRecDepth 20000 in
theorem gX7_advance_X7_readRun : GoodIn wsX7_advance (wsV RX7 69 RX7 yX7_readRun wsX7_readRun) := goodIn_app (a := [.methodLink RX7 69 yX7_readRun, .instanceMethod yX7_readRun, .selects RX7 yX7_readRun yX7_readRun, .initialized RX7]) (have hq0 : ∀ w, w ∈ wsX7_advance_r1 → w ∈ wsX7_advance := fun _ h9 => (List.mem_cons_of_mem _ (List.mem_append_left _ (List.mem_append_left _ (List.mem_append_left _ h9)))); have hq1 : ∀ w, w ∈ wsX7_advance_r2 → w ∈ wsX7_advance := fun _ h9 => (List.mem_cons_of_mem _ (List.mem_append_left _ (List.mem_append_left _ (List.mem_append_right _ (List.mem_append_left _ h9))))); (g_c9 (hq1 _ (List.mem_of_getElem? (i := 11) rfl)) rfl (g_c9 (hq1 _ (List.mem_of_getElem? (i := 12) rfl)) rfl (g_c9 (hq1 _ (List.mem_of_getElem? (i := 13) rfl)) rfl (g_c9 (hq0 _ (List.mem_of_getElem? (i := 17) rfl)) rfl g_n9))))) ggX7_advance_X7_readRun
set_option maxRecDepth 20000 in
theorem ggX7_advance_X7_readSign : GoodIn wsX7_advance wsX7_readSign := goodIn_r _ [56, 2, 24, 6, 29, 1, 9, 10, 11, 12, 13, 14, 15, 57, 58, 59, 60, 61, 62, 63, 64, 65, 66, 67, 68] rfl (by decide +kernel)
set_option maxRecDepth 20000 in
theorem gX7_advance_X7_readSign : GoodIn wsX7_advance (wsV RX7 73 RX7 yX7_readSign wsX7_readSign) := goodIn_app (a := [.methodLink RX7 73 yX7_readSign, .instanceMethod yX7_readSign, .selects RX7 yX7_readSign yX7_readSign, .initialized RX7]) (have hq0 : ∀ w, w ∈ wsX7_advance_r1 → w ∈ wsX7_advance := fun _ h9 => (List.mem_cons_of_mem _ (List.mem_append_left _ (List.mem_append_left _ (List.mem_append_left _ h9)))); have hq1 : ∀ w, w ∈ wsX7_advance_r3 → w ∈ wsX7_advance := fun _ h9 => (List.mem_cons_of_mem _ (List.mem_append_left _ (List.mem_append_left _ (List.mem_append_right _ (List.mem_append_right _ h9))))); (g_c9 (hq1 _ (List.mem_of_getElem? (i := 4) rfl)) rfl (g_c9 (hq1 _ (List.mem_of_getElem? (i := 5) rfl)) rfl (g_c9 (hq1 _ (List.mem_of_getElem? (i := 6) rfl)) rfl (g_c9 (hq0 _ (List.mem_of_getElem? (i := 17) rfl)) rfl g_n9))))) ggX7_advance_X7_readSign
set_option maxRecDepth 20000 in
theorem ggX7_readRun_X6_get : GoodIn wsX7_readRun wsX6_get := goodIn_r _ [13, 14, 15, 46, 47] rfl (by decide +kernel)
set_option maxRecDepth 20000 in
theorem gX7_readRun_X6_get : GoodIn wsX7_readRun (wsV RX7 45 RX6 yX6_get wsX6_get) := goodIn_app (a := [.methodLink RX7 45 yX6_get, .instanceMethod yX6_get, .selects RX6 yX6_get yX6_get, .initialized RX6]) (have hq0 : ∀ w, w ∈ wsX7_readRun_r1 → w ∈ wsX7_readRun := fun _ h9 => (List.mem_cons_of_mem _ (List.mem_append_left _ (List.mem_append_left _ (List.mem_append_left _ h9)))); (g_c9 (hq0 _ (List.mem_of_getElem? (i := 8) rfl)) rfl (g_c9 (hq0 _ (List.mem_of_getElem? (i := 9) rfl)) rfl (g_c9 (hq0 _ (List.mem_of_getElem? (i := 10) rfl)) rfl (g_c9 (hq0 _ (List.mem_of_getElem? (i := 11) rfl)) rfl g_n9))))) ggX7_readRun_X6_get
set_option maxRecDepth 20000 in
theorem ggX7_readRun_X7_isLetter : GoodIn wsX7_readRun wsX7_isLetter := goodIn_r _ [19] rfl (by decide +kernel)
set_option maxRecDepth 20000 in
theorem gX7_readRun_X7_isLetter : GoodIn wsX7_readRun (va_wsS RX7 63 yX7_isLetter wsX7_isLetter) := goodIn_app (goodIn_of _ (by decide +kernel)) ggX7_readRun_X7_isLetter
set_option maxRecDepth 20000 in
theorem ggX7_readRun_X7_isDigit : GoodIn wsX7_readRun wsX7_isDigit := goodIn_r _ [22] rfl (by decide +kernel)
set_option maxRecDepth 20000 in
theorem gX7_readRun_X7_isDigit : GoodIn wsX7_readRun (va_wsS RX7 66 yX7_isDigit wsX7_isDigit) := goodIn_app (goodIn_of _ (by decide +kernel)) ggX7_readRun_X7_isDigit
set_option maxRecDepth 20000 in
theorem ggX7_readRun_X9_withLetter : GoodIn wsX7_readRun wsX9_withLetter := goodIn_r _ [26] rfl (by decide +kernel)
set_option maxRecDepth 20000 in
theorem gX7_readRun_X9_withLetter : GoodIn wsX7_readRun (va_wsS RX7 88 yX9_withLetter wsX9_withLetter) := goodIn_app (goodIn_of _ (by decide +kernel)) ggX7_readRun_X9_withLetter
set_option maxRecDepth 20000 in
theorem ggX7_readRun_X7_kindOfRun : GoodIn wsX7_readRun wsX7_kindOfRun := goodIn_r _ [29] rfl (by decide +kernel)
set_option maxRecDepth 20000 in
theorem gX7_readRun_X7_kindOfRun : GoodIn wsX7_readRun (va_wsS RX7 92 yX7_kindOfRun wsX7_kindOfRun) := goodIn_app (goodIn_of _ (by decide +kernel)) ggX7_readRun_X7_kindOfRun
set_option maxRecDepth 20000 in
theorem ggX7_readRun_X9_withCode : GoodIn wsX7_readRun wsX9_withCode := goodIn_r _ [32, 33, 34, 35] rfl (by decide +kernel)
set_option maxRecDepth 20000 in
theorem gX7_readRun_X9_withCode : GoodIn wsX7_readRun (va_wsS RX7 95 yX9_withCode wsX9_withCode) := goodIn_app (goodIn_of _ (by decide +kernel)) ggX7_readRun_X9_withCode
set_option maxRecDepth 20000 in
theorem ggX7_readSign_X6_get : GoodIn wsX7_readSign wsX6_get := goodIn_r _ [10, 11, 12, 23, 24] rfl (by decide +kernel)
set_option maxRecDepth 20000 in
theorem gX7_readSign_X6_get : GoodIn wsX7_readSign (wsV RX7 45 RX6 yX6_get wsX6_get) := goodIn_app (a := [.methodLink RX7 45 yX6_get, .instanceMethod yX6_get, .selects RX6 yX6_get yX6_get, .initialized RX6]) (g_c9 (List.mem_cons_of_mem _ (List.mem_append_left _ (List.mem_append_left _ (List.mem_of_getElem? (i := 5) rfl)))) rfl (g_c9 (List.mem_cons_of_mem _ (List.mem_append_left _ (List.mem_append_left _ (List.mem_of_getElem? (i := 6) rfl)))) rfl (g_c9 (List.mem_cons_of_mem _ (List.mem_append_left _ (List.mem_append_left _ (List.mem_of_getElem? (i := 7) rfl)))) rfl (g_c9 (List.mem_cons_of_mem _ (List.mem_append_left _ (List.mem_append_left _ (List.mem_of_getElem? (i := 8) rfl)))) rfl g_n9)))) ggX7_readSign_X6_get
set_option maxHeartbeats 8000000 in
set_option maxRecDepth 100000 in
theorem w_Word_withLetter (l : Launch) (D : va_G) (ad : Nat → Nat) (j0 : Int64) (i0 : Int32)  : z_Ml l yX9_withLetter wsX9_withLetter { frames := 0, cells := 0, slots := 0, locals := 0 } D ad [.long j0, .int i0] [] [] 0 0 (fun r9 u9 => z_wl r9 j0 i0 ∧ u9 = ([], [])) := by
  refine z_ofL (cc := cX9_withLetter) (maxL := 3) (by decide) rfl (Nat.le_of_ble_eq_true rfl) ?_
  intro p e s m below meth c Q A ls hx hb hml hown hts hin hK hP hD hA hE hO hS hl hret
  have hown : s.vm.findClass RX9 = some m.cls := hown
  have hl : lv_has ls 3 [(0, .long j0), (2, .int i0)] := hl
  refine lv_lload_n hx hb dX9_withLetter_0 rfl (lv_at hl 0 rfl) ?_
  refine lv_iconst (v := 5) hx hb dX9_withLetter_1 (by decide) ?_
  refine lv_lshl hx hb dX9_withLetter_2 rfl ?_
  refine lv_topl (fun y_1 ey_1 => ?_)
  refine lv_iload_n hx hb dX9_withLetter_3 rfl (lv_at hl 1 rfl) ?_
  refine lv_bipush (v := 97) hx hb dX9_withLetter_4 (by decide) ?_
  refine lv_isub hx hb dX9_withLetter_6 ?_
  refine lv_topi (fun y_2 ey_2 => ?_)
  refine lv_iconst (v := 1) hx hb dX9_withLetter_7 (by decide) ?_
  refine lv_iadd hx hb dX9_withLetter_8 ?_
  refine lv_topi (fun y_3 ey_3 => ?_)
  refine lv_i2l hx hb dX9_withLetter_9 rfl ?_
  refine lv_topl (fun y_4 ey_4 => ?_)
  refine lv_lor hx hb dX9_withLetter_10 ?_
  refine lv_topl (fun y_5 ey_5 => ?_)
  exact hret y_5 ([], []) _ _ _ _ dX9_withLetter_11 ⟨(z_wlI ey_5 ey_1 ey_4 ey_3 ey_2), rfl⟩ hP (hK.sub [] rfl) hD hS

set_option maxHeartbeats 8000000 in
set_option maxRecDepth 100000 in
theorem w_Word_withCode (l : Launch) (D : va_G) (ad : Nat → Nat) (j0 : Int64)  : z_Mr l yX9_withCode wsX9_withCode { frames := 0, cells := 0, slots := 0, locals := 0 } D ad [.long j0] [] [] 0 0 (fun u9 => ∃ (xr : Nat), xr < 22 ∧ z_wi z_cds j0 xr ∧ u9 = ((ad xr), [], [])) := by
  refine z_ofR (cc := cX9_withCode) (maxL := 3) (by decide) rfl (Nat.le_of_ble_eq_true rfl) ?_
  intro p e s m below meth c Q A ls hx hb hml hown hts hin hK hP hD hA hE hO hS hl hret
  have hown : s.vm.findClass RX9 = some m.cls := hown
  have hl : lv_has ls 3 [(0, .long j0)] := hl
  refine lv_iconst (v := 0) hx hb dX9_withCode_0 (by decide) ?_
  refine lv_istore_n (lv' := [(2, .int 0), (0, .long j0)]) hx hb dX9_withCode_1 rfl hl (by decide) rfl (fun ls hl => ?_)
  have LP1 : ∀ (n : Nat) (v1_2 : Int32) (H : Heap) (locs : List Loc) (ls : Array Slot), z_in 0 22 v1_2 → z_wdj z_cds j0 v1_2 → 23 - v1_2.toInt ≤ (n : Int) → va_P D vwCl [] H → va_D A [] → va_S A s.heap H locs → lv_has ls 3 [(2, .int v1_2), (0, .long j0)] → W p l e ({ frames := 0, cells := 0, slots := 0, locals := 0 }) s m ([.long j0] : List Value).toArray below meth c H locs 0 0 Q (F0 m 2 ls []) := by
    intro n
    induction n with
    | zero => intro v1_2 H locs ls hv1_2 hI1_0 hn1; exact absurd hn1 (by have q1 := hv1_2.1; have q2 := hv1_2.2; omega)
    | succ n ih1 =>
      intro v1_2 H locs ls hv1_2 hI1_0 hn1 hP hD hS hl
      have q1 := hv1_2.1
      have q1' := hv1_2.2
      refine lv_iload_n hx hb dX9_withCode_2 rfl (lv_at hl 0 rfl) ?_
      obtain ⟨aA, hZA, hTA, hXA⟩ := hE.2.1
      refine va_gets (v := .ref aA) hx hb hZA hS hown (hts _ (List.mem_of_getElem? (i := 1) rfl)) (fun _ h9 => h9) dX9_withCode_3 ?_
      refine va_tlen (v := 22) hx hb hTA hS rfl dX9_withCode_6 ?_
      refine lv_icmp_ge (tgt := 35) hx hb dX9_withCode_7 (by decide) (fun c_1 => ?_) (fun c_1 => ?_)
      · skip
        have h_2 : z_in 22 22 v1_2 := z_leR c_1 (z_lit (x := 22) (a := 22) (b := 22) rfl) hv1_2 rfl
        refine va_gets (v := .ref (ad 0)) hx hb (hE.1.1 0 (by decide)).1 hS hown (hts _ (List.mem_of_getElem? (i := 3) rfl)) (fun _ h9 => h9) dX9_withCode_35 ?_
        exact hret ((ad 0), [], []) _ _ _ _ dX9_withCode_38 ⟨0, (by decide), (z_wiN hI1_0 h_2), rfl⟩ hP (hK.sub [] rfl) hD hS
      · skip
        have h_3 : z_in 0 21 v1_2 := z_ltL (Int32.not_le.mp c_1) hv1_2 (z_lit (x := 22) (a := 22) (b := 22) rfl) rfl
        refine va_gets (v := .ref aA) hx hb hZA hS hown (hts _ (List.mem_of_getElem? (i := 1) rfl)) (fun _ h9 => h9) dX9_withCode_10 ?_
        refine lv_iload_n hx hb dX9_withCode_13 rfl (lv_at hl 0 rfl) ?_
        refine vb_tq hx hb hTA hS (z_vp h_3 rfl) rfl dX9_withCode_14 ?_
        obtain ⟨w_4, ew_4⟩ : ∃ w : Nat, w = (v1_2 : Int32).toNatClampNeg := ⟨_, rfl⟩
        have h_5 : w_4 < 22 := by rw [ew_4]; exact z_clw h_3 rfl rfl
        refine W.eq (g2 := F0 m 15 ls (.ref (ad (v1_2 : Int32).toNatClampNeg) :: [])) rfl ?_
        rw [← ew_4]
        refine va_getX (i := w_4) hx hb hXA h_5 hS hown (hts _ (List.mem_of_getElem? (i := 2) rfl)) (fun _ h9 => h9) dX9_withCode_15 ?_
        obtain ⟨y_6, ey_6⟩ : ∃ y9 : Int64, y9 = z_cds.getD w_4 0 := ⟨_, rfl⟩
        refine W.eq (g2 := F0 m 18 ls (.long (z_cds.getD w_4 0) :: [])) rfl ?_
        rw [← ey_6]
        refine lv_lload_n hx hb dX9_withCode_18 rfl (lv_at hl 1 rfl) ?_
        refine W.lcmp hx hb dX9_withCode_19 ?_
        refine lv_topi (fun y_7 ey_7 => ?_)
        have h_8 : z_in (-1) 1 y_7 := by rw [ey_7]; exact z_cmp _ _
        refine lv_if_ne (tgt := 29) hx hb dX9_withCode_20 (by decide) (fun c_9 => ?_) (fun c_9 => ?_)
        · skip
          obtain ⟨y_10, ey_10⟩ : ∃ y : Int32, y = v1_2 + 1 := ⟨_, rfl⟩
          have h_11 : z_in 1 22 y_10 := by rw [ey_10]; exact z_add h_3 (z_lit (x := 1) (a := 1) (b := 1) rfl) rfl rfl
          have ty_10 : y_10.toInt = v1_2.toInt + 1 := by rw [ey_10]; exact z_addT h_3 (z_lit (x := 1) (a := 1) (b := 1) rfl) rfl
          refine lv_iinc (v := y_10) (lv' := [(2, .int y_10), (0, .long j0)]) hx hb dX9_withCode_29 hl (k := 0) rfl (by rw [ey_10]; rfl) (by decide) rfl (fun ls hl => ?_)
          refine lv_goto (tgt := 2) hx hb dX9_withCode_32 (by decide) ?_
          exact ih1 y_10 _ _ _ (z_w (c := 0) (d := 22) h_11 rfl) (z_wjS ty_10 hI1_0 (z_lc1 ey_7 c_9) ey_6 ew_4) (by omega) hP hD hS (lv_sub hl [0, 1] rfl)
        · skip
          have h_12 : z_in (-1) 0 y_7 := z_leL (Int32.le_of_eq c_9) h_8 (z_lit (x := 0) (a := 0) (b := 0) rfl) rfl
          have h_13 : z_in 0 0 y_7 := z_leR (Int32.le_of_eq (Eq.symm c_9)) (z_lit (x := 0) (a := 0) (b := 0) rfl) h_12 rfl
          refine va_gets (v := .ref aA) hx hb hZA hS hown (hts _ (List.mem_of_getElem? (i := 1) rfl)) (fun _ h9 => h9) dX9_withCode_23 ?_
          refine lv_iload_n hx hb dX9_withCode_26 rfl (lv_at hl 0 rfl) ?_
          refine vb_tq hx hb hTA hS (z_vp h_3 rfl) rfl dX9_withCode_27 ?_
          obtain ⟨w_14, ew_14⟩ : ∃ w : Nat, w = (v1_2 : Int32).toNatClampNeg := ⟨_, rfl⟩
          have h_15 : w_14 < 22 := by rw [ew_14]; exact z_clw h_3 rfl rfl
          refine W.eq (g2 := F0 m 28 ls (.ref (ad (v1_2 : Int32).toNatClampNeg) :: [])) rfl ?_
          rw [← ew_14]
          exact hret ((ad w_14), [], []) _ _ _ _ dX9_withCode_28 ⟨w_14, h_15, (z_wiF ew_14 hI1_0 h_3 ey_6 ew_4 (z_lc0 ey_7 (z_eqk h_13 rfl))), rfl⟩ hP (hK.sub [] rfl) hD hS
  exact LP1 23 0 _ _ _ (z_w (c := 0) (d := 22) (z_lit (x := 0) (a := 0) (b := 0) rfl) rfl) z_wj0 (by decide) hP hD hS (lv_sub hl [0, 1] rfl)

set_option maxHeartbeats 8000000 in
set_option maxRecDepth 100000 in
theorem w_Tokens_isBlank (l : Launch) (D : va_G) (ad : Nat → Nat) (i0 : Int32)  : z_Mi l yX7_isBlank wsX7_isBlank { frames := 0, cells := 0, slots := 0, locals := 0 } D ad [.int i0] [] [] 0 0 (fun r9 u9 => z_in 0 1 r9 ∧ (r9 = 1 → z_in 10 32 i0) ∧ z_qb r9 i0 ∧ u9 = ([], [])) := by
  refine z_ofI (cc := cX7_isBlank) (maxL := 1) (rt := .boolean) (by decide) rfl (Nat.le_of_ble_eq_true rfl) ?_
  intro p e s m below meth c Q A ls hx hb hml hown hts hin hK hP hD hA hE hO hS hl hret
  have hown : s.vm.findClass RX7 = some m.cls := hown
  have hl : lv_has ls 1 [(0, .int i0)] := hl
  refine lv_iload_n hx hb dX7_isBlank_0 rfl (lv_at hl 0 rfl) ?_
  refine lv_bipush (v := 32) hx hb dX7_isBlank_1 (by decide) ?_
  refine lv_icmp_eq (tgt := 12) hx hb dX7_isBlank_3 (by decide) (fun c_1 => ?_) (fun c_1 => ?_)
  · skip
    have h_2 : z_in (-2147483648) 32 i0 := z_leL (Int32.le_of_eq c_1) (z_any i0) (z_lit (x := 32) (a := 32) (b := 32) rfl) rfl
    have h_3 : z_in 32 32 i0 := z_leR (Int32.le_of_eq (Eq.symm c_1)) (z_lit (x := 32) (a := 32) (b := 32) rfl) h_2 rfl
    refine lv_iconst (v := 1) hx hb dX7_isBlank_12 (by decide) ?_
    refine lv_goto (tgt := 17) hx hb dX7_isBlank_13 (by decide) ?_
    exact hret 1 ([], []) _ _ _ _ dX7_isBlank_17 (by decide) ⟨(z_w (c := 0) (d := 1) (z_lit (x := 1) (a := 1) (b := 1) rfl) rfl), (fun _ => (z_w (c := 10) (d := 32) h_3 rfl)), (z_qb1 (z_eqk h_3 rfl)), rfl⟩ hP (hK.sub [] rfl) hD hS
  · skip
    refine lv_iload_n hx hb dX7_isBlank_6 rfl (lv_at hl 0 rfl) ?_
    refine lv_bipush (v := 10) hx hb dX7_isBlank_7 (by decide) ?_
    refine lv_icmp_ne (tgt := 16) hx hb dX7_isBlank_9 (by decide) (fun c_4 => ?_) (fun c_4 => ?_)
    · skip
      refine lv_iconst (v := 0) hx hb dX7_isBlank_16 (by decide) ?_
      exact hret 0 ([], []) _ _ _ _ dX7_isBlank_17 (by decide) ⟨(z_w (c := 0) (d := 1) (z_lit (x := 0) (a := 0) (b := 0) rfl) rfl), (fun h9 => absurd h9 (by decide)), (z_qb0 c_1 c_4), rfl⟩ hP (hK.sub [] rfl) hD hS
    · skip
      have h_5 : z_in (-2147483648) 10 i0 := z_leL (Int32.le_of_eq c_4) (z_any i0) (z_lit (x := 10) (a := 10) (b := 10) rfl) rfl
      have h_6 : z_in 10 10 i0 := z_leR (Int32.le_of_eq (Eq.symm c_4)) (z_lit (x := 10) (a := 10) (b := 10) rfl) h_5 rfl
      refine lv_iconst (v := 1) hx hb dX7_isBlank_12 (by decide) ?_
      refine lv_goto (tgt := 17) hx hb dX7_isBlank_13 (by decide) ?_
      exact hret 1 ([], []) _ _ _ _ dX7_isBlank_17 (by decide) ⟨(z_w (c := 0) (d := 1) (z_lit (x := 1) (a := 1) (b := 1) rfl) rfl), (fun _ => (z_w (c := 10) (d := 32) h_6 rfl)), (z_qb2 (z_eqk h_6 rfl)), rfl⟩ hP (hK.sub [] rfl) hD hS

set_option maxHeartbeats 8000000 in
set_option maxRecDepth 100000 in
theorem w_Tokens_isLetter (l : Launch) (D : va_G) (ad : Nat → Nat) (i0 : Int32)  : z_Mi l yX7_isLetter wsX7_isLetter { frames := 0, cells := 0, slots := 0, locals := 0 } D ad [.int i0] [] [] 0 0 (fun r9 u9 => z_in 0 1 r9 ∧ (r9 = 1 → z_in 97 122 i0) ∧ z_ql r9 i0 ∧ u9 = ([], [])) := by
  refine z_ofI (cc := cX7_isLetter) (maxL := 1) (rt := .boolean) (by decide) rfl (Nat.le_of_ble_eq_true rfl) ?_
  intro p e s m below meth c Q A ls hx hb hml hown hts hin hK hP hD hA hE hO hS hl hret
  have hown : s.vm.findClass RX7 = some m.cls := hown
  have hl : lv_has ls 1 [(0, .int i0)] := hl
  refine lv_iload_n hx hb dX7_isLetter_0 rfl (lv_at hl 0 rfl) ?_
  refine lv_bipush (v := 97) hx hb dX7_isLetter_1 (by decide) ?_
  refine lv_icmp_lt (tgt := 16) hx hb dX7_isLetter_3 (by decide) (fun c_1 => ?_) (fun c_1 => ?_)
  · skip
    have h_2 : z_in (-2147483648) 96 i0 := z_ltL c_1 (z_any i0) (z_lit (x := 97) (a := 97) (b := 97) rfl) rfl
    refine lv_iconst (v := 0) hx hb dX7_isLetter_16 (by decide) ?_
    exact hret 0 ([], []) _ _ _ _ dX7_isLetter_17 (by decide) ⟨(z_w (c := 0) (d := 1) (z_lit (x := 0) (a := 0) (b := 0) rfl) rfl), (fun h9 => absurd h9 (by decide)), (z_ql0 h_2), rfl⟩ hP (hK.sub [] rfl) hD hS
  · skip
    have h_3 : z_in 97 2147483647 i0 := z_leR (Int32.not_lt.mp c_1) (z_lit (x := 97) (a := 97) (b := 97) rfl) (z_any i0) rfl
    refine lv_iload_n hx hb dX7_isLetter_6 rfl (lv_at hl 0 rfl) ?_
    refine lv_bipush (v := 122) hx hb dX7_isLetter_7 (by decide) ?_
    refine lv_icmp_gt (tgt := 16) hx hb dX7_isLetter_9 (by decide) (fun c_4 => ?_) (fun c_4 => ?_)
    · skip
      have h_5 : z_in 123 2147483647 i0 := z_ltR c_4 (z_lit (x := 122) (a := 122) (b := 122) rfl) h_3 rfl
      refine lv_iconst (v := 0) hx hb dX7_isLetter_16 (by decide) ?_
      exact hret 0 ([], []) _ _ _ _ dX7_isLetter_17 (by decide) ⟨(z_w (c := 0) (d := 1) (z_lit (x := 0) (a := 0) (b := 0) rfl) rfl), (fun h9 => absurd h9 (by decide)), (z_ql2 h_5), rfl⟩ hP (hK.sub [] rfl) hD hS
    · skip
      have h_6 : z_in 97 122 i0 := z_leL (Int32.not_lt.mp c_4) h_3 (z_lit (x := 122) (a := 122) (b := 122) rfl) rfl
      refine lv_iconst (v := 1) hx hb dX7_isLetter_12 (by decide) ?_
      refine lv_goto (tgt := 17) hx hb dX7_isLetter_13 (by decide) ?_
      exact hret 1 ([], []) _ _ _ _ dX7_isLetter_17 (by decide) ⟨(z_w (c := 0) (d := 1) (z_lit (x := 1) (a := 1) (b := 1) rfl) rfl), (fun _ => h_6), (z_ql1 h_6), rfl⟩ hP (hK.sub [] rfl) hD hS

set_option maxHeartbeats 8000000 in
set_option maxRecDepth 100000 in
theorem w_Tokens_isDigit (l : Launch) (D : va_G) (ad : Nat → Nat) (i0 : Int32)  : z_Mi l yX7_isDigit wsX7_isDigit { frames := 0, cells := 0, slots := 0, locals := 0 } D ad [.int i0] [] [] 0 0 (fun r9 u9 => z_in 0 1 r9 ∧ (r9 = 1 → z_in 48 57 i0) ∧ z_qd r9 i0 ∧ u9 = ([], [])) := by
  refine z_ofI (cc := cX7_isDigit) (maxL := 1) (rt := .boolean) (by decide) rfl (Nat.le_of_ble_eq_true rfl) ?_
  intro p e s m below meth c Q A ls hx hb hml hown hts hin hK hP hD hA hE hO hS hl hret
  have hown : s.vm.findClass RX7 = some m.cls := hown
  have hl : lv_has ls 1 [(0, .int i0)] := hl
  refine lv_iload_n hx hb dX7_isDigit_0 rfl (lv_at hl 0 rfl) ?_
  refine lv_bipush (v := 48) hx hb dX7_isDigit_1 (by decide) ?_
  refine lv_icmp_lt (tgt := 16) hx hb dX7_isDigit_3 (by decide) (fun c_1 => ?_) (fun c_1 => ?_)
  · skip
    have h_2 : z_in (-2147483648) 47 i0 := z_ltL c_1 (z_any i0) (z_lit (x := 48) (a := 48) (b := 48) rfl) rfl
    refine lv_iconst (v := 0) hx hb dX7_isDigit_16 (by decide) ?_
    exact hret 0 ([], []) _ _ _ _ dX7_isDigit_17 (by decide) ⟨(z_w (c := 0) (d := 1) (z_lit (x := 0) (a := 0) (b := 0) rfl) rfl), (fun h9 => absurd h9 (by decide)), (z_qd0 h_2), rfl⟩ hP (hK.sub [] rfl) hD hS
  · skip
    have h_3 : z_in 48 2147483647 i0 := z_leR (Int32.not_lt.mp c_1) (z_lit (x := 48) (a := 48) (b := 48) rfl) (z_any i0) rfl
    refine lv_iload_n hx hb dX7_isDigit_6 rfl (lv_at hl 0 rfl) ?_
    refine lv_bipush (v := 57) hx hb dX7_isDigit_7 (by decide) ?_
    refine lv_icmp_gt (tgt := 16) hx hb dX7_isDigit_9 (by decide) (fun c_4 => ?_) (fun c_4 => ?_)
    · skip
      have h_5 : z_in 58 2147483647 i0 := z_ltR c_4 (z_lit (x := 57) (a := 57) (b := 57) rfl) h_3 rfl
      refine lv_iconst (v := 0) hx hb dX7_isDigit_16 (by decide) ?_
      exact hret 0 ([], []) _ _ _ _ dX7_isDigit_17 (by decide) ⟨(z_w (c := 0) (d := 1) (z_lit (x := 0) (a := 0) (b := 0) rfl) rfl), (fun h9 => absurd h9 (by decide)), (z_qd2 h_5), rfl⟩ hP (hK.sub [] rfl) hD hS
    · skip
      have h_6 : z_in 48 57 i0 := z_leL (Int32.not_lt.mp c_4) h_3 (z_lit (x := 57) (a := 57) (b := 57) rfl) rfl
      refine lv_iconst (v := 1) hx hb dX7_isDigit_12 (by decide) ?_
      refine lv_goto (tgt := 17) hx hb dX7_isDigit_13 (by decide) ?_
      exact hret 1 ([], []) _ _ _ _ dX7_isDigit_17 (by decide) ⟨(z_w (c := 0) (d := 1) (z_lit (x := 1) (a := 1) (b := 1) rfl) rfl), (fun _ => h_6), (z_qd1 h_6), rfl⟩ hP (hK.sub [] rfl) hD hS

set_option maxHeartbeats 8000000 in
set_option maxRecDepth 100000 in
theorem w_Tokens_kindOfRun (l : Launch) (D : va_G) (ad : Nat → Nat) (i0 : Int32) (i1 : Int32)  : z_Mi l yX7_kindOfRun wsX7_kindOfRun { frames := 0, cells := 0, slots := 0, locals := 0 } D ad [.int i0, .int i1] [] [] 0 0 (fun r9 u9 => z_in 1 4 r9 ∧ (r9 = 3 → z_in 0 0 i0) ∧ (r9 = 3 → z_in (-2147483648) 3 i1) ∧ (r9 = 4 → z_in (-2147483648) 7 i0) ∧ (r9 = 4 → z_in 0 0 i1) ∧ z_kk r9 i0 i1 ∧ u9 = ([], [])) := by
  refine z_ofI (cc := cX7_kindOfRun) (maxL := 2) (rt := .int) (by decide) rfl (Nat.le_of_ble_eq_true rfl) ?_
  intro p e s m below meth c Q A ls hx hb hml hown hts hin hK hP hD hA hE hO hS hl hret
  have hown : s.vm.findClass RX7 = some m.cls := hown
  have hl : lv_has ls 2 [(0, .int i0), (1, .int i1)] := hl
  refine lv_iload_n hx hb dX7_kindOfRun_0 rfl (lv_at hl 1 rfl) ?_
  refine lv_if_ne (tgt := 12) hx hb dX7_kindOfRun_1 (by decide) (fun c_1 => ?_) (fun c_1 => ?_)
  · skip
    refine lv_iload_n hx hb dX7_kindOfRun_12 rfl (lv_at hl 0 rfl) ?_
    refine lv_if_ne (tgt := 25) hx hb dX7_kindOfRun_13 (by decide) (fun c_2 => ?_) (fun c_2 => ?_)
    · skip
      refine lv_iconst (v := 1) hx hb dX7_kindOfRun_25 (by decide) ?_
      exact hret 1 ([], []) _ _ _ _ dX7_kindOfRun_26 rfl ⟨(z_w (c := 1) (d := 4) (z_lit (x := 1) (a := 1) (b := 1) rfl) rfl), (fun h9 => absurd h9 (by decide)), (fun h9 => absurd h9 (by decide)), (fun h9 => absurd h9 (by decide)), (fun h9 => absurd h9 (by decide)), (z_kk1a c_1 c_2), rfl⟩ hP (hK.sub [] rfl) hD hS
    · skip
      have h_3 : z_in (-2147483648) 0 i0 := z_leL (Int32.le_of_eq c_2) (z_any i0) (z_lit (x := 0) (a := 0) (b := 0) rfl) rfl
      have h_4 : z_in 0 0 i0 := z_leR (Int32.le_of_eq (Eq.symm c_2)) (z_lit (x := 0) (a := 0) (b := 0) rfl) h_3 rfl
      refine lv_iload_n hx hb dX7_kindOfRun_16 rfl (lv_at hl 1 rfl) ?_
      refine lv_iconst (v := 3) hx hb dX7_kindOfRun_17 (by decide) ?_
      refine lv_icmp_gt (tgt := 25) hx hb dX7_kindOfRun_18 (by decide) (fun c_5 => ?_) (fun c_5 => ?_)
      · skip
        have h_6 : z_in 4 2147483647 i1 := z_ltR c_5 (z_lit (x := 3) (a := 3) (b := 3) rfl) (z_any i1) rfl
        refine lv_iconst (v := 1) hx hb dX7_kindOfRun_25 (by decide) ?_
        exact hret 1 ([], []) _ _ _ _ dX7_kindOfRun_26 rfl ⟨(z_w (c := 1) (d := 4) (z_lit (x := 1) (a := 1) (b := 1) rfl) rfl), (fun h9 => absurd h9 (by decide)), (fun h9 => absurd h9 (by decide)), (fun h9 => absurd h9 (by decide)), (fun h9 => absurd h9 (by decide)), (z_kk1b c_1 h_6), rfl⟩ hP (hK.sub [] rfl) hD hS
      · skip
        have h_7 : z_in (-2147483648) 3 i1 := z_leL (Int32.not_lt.mp c_5) (z_any i1) (z_lit (x := 3) (a := 3) (b := 3) rfl) rfl
        refine lv_iconst (v := 3) hx hb dX7_kindOfRun_21 (by decide) ?_
        refine lv_goto (tgt := 26) hx hb dX7_kindOfRun_22 (by decide) ?_
        exact hret 3 ([], []) _ _ _ _ dX7_kindOfRun_26 rfl ⟨(z_w (c := 1) (d := 4) (z_lit (x := 3) (a := 3) (b := 3) rfl) rfl), (fun _ => h_4), (fun _ => h_7), (fun h9 => absurd h9 (by decide)), (fun h9 => absurd h9 (by decide)), (z_kk3a c_1 (z_eqk h_4 rfl) h_7), rfl⟩ hP (hK.sub [] rfl) hD hS
  · skip
    have h_8 : z_in (-2147483648) 0 i1 := z_leL (Int32.le_of_eq c_1) (z_any i1) (z_lit (x := 0) (a := 0) (b := 0) rfl) rfl
    have h_9 : z_in 0 0 i1 := z_leR (Int32.le_of_eq (Eq.symm c_1)) (z_lit (x := 0) (a := 0) (b := 0) rfl) h_8 rfl
    refine lv_iload_n hx hb dX7_kindOfRun_4 rfl (lv_at hl 0 rfl) ?_
    refine lv_bipush (v := 7) hx hb dX7_kindOfRun_5 (by decide) ?_
    refine lv_icmp_gt (tgt := 12) hx hb dX7_kindOfRun_7 (by decide) (fun c_10 => ?_) (fun c_10 => ?_)
    · skip
      have h_11 : z_in 8 2147483647 i0 := z_ltR c_10 (z_lit (x := 7) (a := 7) (b := 7) rfl) (z_any i0) rfl
      refine lv_iload_n hx hb dX7_kindOfRun_12 rfl (lv_at hl 0 rfl) ?_
      refine lv_if_ne (tgt := 25) hx hb dX7_kindOfRun_13 (by decide) (fun c_12 => ?_) (fun c_12 => ?_)
      · skip
        refine lv_iconst (v := 1) hx hb dX7_kindOfRun_25 (by decide) ?_
        exact hret 1 ([], []) _ _ _ _ dX7_kindOfRun_26 rfl ⟨(z_w (c := 1) (d := 4) (z_lit (x := 1) (a := 1) (b := 1) rfl) rfl), (fun h9 => absurd h9 (by decide)), (fun h9 => absurd h9 (by decide)), (fun h9 => absurd h9 (by decide)), (fun h9 => absurd h9 (by decide)), (z_kk1c h_11), rfl⟩ hP (hK.sub [] rfl) hD hS
      · skip
        exact (z_no (z_leL (e := 0) (Int32.le_of_eq c_12) h_11 (z_lit (x := 0) (a := 0) (b := 0) rfl) rfl) rfl).elim
    · skip
      have h_13 : z_in (-2147483648) 7 i0 := z_leL (Int32.not_lt.mp c_10) (z_any i0) (z_lit (x := 7) (a := 7) (b := 7) rfl) rfl
      refine lv_iconst (v := 4) hx hb dX7_kindOfRun_10 (by decide) ?_
      exact hret 4 ([], []) _ _ _ _ dX7_kindOfRun_11 rfl ⟨(z_w (c := 1) (d := 4) (z_lit (x := 4) (a := 4) (b := 4) rfl) rfl), (fun h9 => absurd h9 (by decide)), (fun h9 => absurd h9 (by decide)), (fun _ => h_13), (fun _ => h_9), (z_kk4 (z_eqk h_9 rfl) h_13), rfl⟩ hP (hK.sub [] rfl) hD hS

set_option maxHeartbeats 8000000 in
set_option maxRecDepth 100000 in
theorem w_Tokens_stop (l : Launch) (D : va_G) (ad : Nat → Nat) (tk : Nat) (tkm : Int32) (tkb : Int32) (tkk : Int32) (tka : Int32) (tkv : Int32) (tkc : Int64) (tkf : Int32) (tkg : Int32) (ta : Nat) (tan : Int32) (tab : Nat) (tabt : ClassId) (tabf : Nat → Int32) (htkm : z_in 0 940 tkm) (htkb : z_in 0 940 tkb) (htkk : z_in 0 4 tkk) (htan : z_in 0 940 tan) : z_Mv l yX7_stop wsX7_stop { frames := 1, cells := 0, slots := 0, locals := 21 } D ad [.ref tk] [(tk, .inr (7, [.ref ta, .int tkm, .int tkb, .int tkk, .int tka, .int tkv, .long tkc, .ref (ad 0), .int tkf, .int tkg])), (ta, .inr (6, [.ref tab, .int tan])), (tab, .inl (tabt, 940, .inl tabf))] [(tabt, .byte)] 0 0 (fun u9 => ∃ (x0_2 : Int32) (x0_3 : Int32) (x0_4 : Int32), z_in 0 940 x0_2 ∧ z_in 0 4 x0_3 ∧ z_so tan tkm x0_3 x0_4 ∧ u9 = ([(tk, .inr (7, [.ref ta, .int tkm, .int x0_2, .int x0_3, .int x0_4, .int tkv, .long tkc, .ref (ad 0), .int tkf, .int tkg])), (ta, .inr (6, [.ref tab, .int tan])), (tab, .inl (tabt, 940, .inl tabf))], [])) := by
  refine z_ofV (cc := cX7_stop) (maxL := 1) (by decide) rfl (Nat.le_of_ble_eq_true rfl) ?_
  intro p e s m below meth c Q A ls hx hb hml hown hts hin hK hP hD hA hE hO hS hl hret
  have hown : s.vm.findClass RX7 = some m.cls := hown
  have hiX7 : ∀ w ∈ wsX70, w ∈ wsX7_stop := fun _ h9 => List.mem_cons_of_mem _ (List.mem_append_left _ (List.mem_append_right _ h9))
  have hiX6 : ∀ w ∈ wsX60, w ∈ wsX7_stop := fun _ h9 => List.mem_cons_of_mem _ (List.mem_append_right _ h9)
  have hl : lv_has ls 1 [(0, .ref tk)] := hl
  refine lv_aload_n hx hb dX7_stop_0 rfl (lv_at hl 0 rfl) ?_
  refine lv_aload_n hx hb dX7_stop_1 rfl (lv_at hl 0 rfl) ?_
  refine va_get (D := D) (ci := 7) (v := .ref ta) (C := RX7) (T := TX7) (N := 10) hx hb hts hiX7 hown hK hP 0 rfl rfl 0 (by decide) (hts _ (List.mem_of_getElem? (i := 1) rfl)) (fun _ h9 => h9) rfl dX7_stop_2 ?_
  refine va_get (D := D) (ci := 6) (v := .int tan) (C := RX6) (T := TX6) (N := 2) hx hb hts hiX6 hown hK hP 1 rfl rfl 1 (by decide) (hts _ (List.mem_of_getElem? (i := 2) rfl)) (fun _ h9 => h9) rfl dX7_stop_5 ?_
  refine lv_aload_n hx hb dX7_stop_8 rfl (lv_at hl 0 rfl) ?_
  refine va_get (D := D) (ci := 7) (v := .int tkm) (C := RX7) (T := TX7) (N := 10) hx hb hts hiX7 hown hK hP 0 rfl rfl 1 (by decide) (hts _ (List.mem_of_getElem? (i := 3) rfl)) (fun _ h9 => h9) rfl dX7_stop_9 ?_
  refine lv_icmp_le (tgt := 19) hx hb dX7_stop_12 (by decide) (fun c_1 => ?_) (fun c_1 => ?_)
  · skip
    refine lv_iconst (v := 0) hx hb dX7_stop_19 (by decide) ?_
    refine va_put (D := D) (ci := 7) (v := .int 0) (ty := tyX7 3) (C := RX7) (T := TX7) (N := 10) hx hb hts hiX7 tyX7 tyX7_ok nmX7 hown hK hP hD hS 0 rfl rfl 3 (by decide) (hts _ (List.mem_of_getElem? (i := 4) rfl)) (fun _ h9 => h9) rfl (tyX7_ok 3 (by decide)) rfl rfl (Nat.le_of_ble_eq_true rfl) dX7_stop_20 (fun H locs hP hD hS => ?_)
    have hP : va_P D vwCl [(tk, .inr (7, [.ref ta, .int tkm, .int tkb, .int 0, .int tka, .int tkv, .long tkc, .ref (ad 0), .int tkf, .int tkg])), (ta, .inr (6, [.ref tab, .int tan])), (tab, .inl (tabt, 940, .inl tabf))] H := hP
    have hD : va_D A [(tk, .inr (7, [.ref ta, .int tkm, .int tkb, .int 0, .int tka, .int tkv, .long tkc, .ref (ad 0), .int tkf, .int tkg])), (ta, .inr (6, [.ref tab, .int tan])), (tab, .inl (tabt, 940, .inl tabf))] := hD
    refine lv_aload_n hx hb dX7_stop_23 rfl (lv_at hl 0 rfl) ?_
    refine lv_aload_n hx hb dX7_stop_24 rfl (lv_at hl 0 rfl) ?_
    refine va_get (D := D) (ci := 7) (v := .ref ta) (C := RX7) (T := TX7) (N := 10) hx hb hts hiX7 hown hK hP 0 rfl rfl 0 (by decide) (hts _ (List.mem_of_getElem? (i := 1) rfl)) (fun _ h9 => h9) rfl dX7_stop_25 ?_
    refine va_get (D := D) (ci := 6) (v := .int tan) (C := RX6) (T := TX6) (N := 2) hx hb hts hiX6 hown hK hP 1 rfl rfl 1 (by decide) (hts _ (List.mem_of_getElem? (i := 2) rfl)) (fun _ h9 => h9) rfl dX7_stop_28 ?_
    refine lv_aload_n hx hb dX7_stop_31 rfl (lv_at hl 0 rfl) ?_
    refine va_get (D := D) (ci := 7) (v := .int tkm) (C := RX7) (T := TX7) (N := 10) hx hb hts hiX7 hown hK hP 0 rfl rfl 1 (by decide) (hts _ (List.mem_of_getElem? (i := 3) rfl)) (fun _ h9 => h9) rfl dX7_stop_32 ?_
    refine va_mmin hx hb (by rw [hml]; exact hl.1.symm) hown (hts _ (List.mem_of_getElem? (i := 5) rfl)) (hts _ (List.mem_of_getElem? (i := 6) rfl)) (hts _ (List.mem_of_getElem? (i := 7) rfl)) (hts _ (List.mem_of_getElem? (i := 8) rfl)) (Nat.le_of_ble_eq_true rfl) (Nat.le_of_ble_eq_true rfl) (Nat.le_of_ble_eq_true rfl) (Nat.le_of_ble_eq_true rfl) dX7_stop_35 ?_
    refine lv_topi (fun y_2 ey_2 => ?_)
    have h_3 : z_in 0 940 y_2 := by rw [ey_2]; exact z_min htan htkm rfl
    refine va_put (D := D) (ci := 7) (v := .int y_2) (ty := tyX7 4) (C := RX7) (T := TX7) (N := 10) hx hb hts hiX7 tyX7 tyX7_ok nmX7 hown hK hP hD hS 0 rfl rfl 4 (by decide) (hts _ (List.mem_of_getElem? (i := 9) rfl)) (fun _ h9 => h9) rfl (tyX7_ok 4 (by decide)) rfl rfl (Nat.le_of_ble_eq_true rfl) dX7_stop_38 (fun H locs hP hD hS => ?_)
    have hP : va_P D vwCl [(tk, .inr (7, [.ref ta, .int tkm, .int tkb, .int 0, .int y_2, .int tkv, .long tkc, .ref (ad 0), .int tkf, .int tkg])), (ta, .inr (6, [.ref tab, .int tan])), (tab, .inl (tabt, 940, .inl tabf))] H := hP
    have hD : va_D A [(tk, .inr (7, [.ref ta, .int tkm, .int tkb, .int 0, .int y_2, .int tkv, .long tkc, .ref (ad 0), .int tkf, .int tkg])), (ta, .inr (6, [.ref tab, .int tan])), (tab, .inl (tabt, 940, .inl tabf))] := hD
    refine lv_aload_n hx hb dX7_stop_41 rfl (lv_at hl 0 rfl) ?_
    refine lv_aload_n hx hb dX7_stop_42 rfl (lv_at hl 0 rfl) ?_
    refine va_get (D := D) (ci := 7) (v := .ref ta) (C := RX7) (T := TX7) (N := 10) hx hb hts hiX7 hown hK hP 0 rfl rfl 0 (by decide) (hts _ (List.mem_of_getElem? (i := 1) rfl)) (fun _ h9 => h9) rfl dX7_stop_43 ?_
    refine va_get (D := D) (ci := 6) (v := .int tan) (C := RX6) (T := TX6) (N := 2) hx hb hts hiX6 hown hK hP 1 rfl rfl 1 (by decide) (hts _ (List.mem_of_getElem? (i := 2) rfl)) (fun _ h9 => h9) rfl dX7_stop_46 ?_
    refine va_put (D := D) (ci := 7) (v := .int tan) (ty := tyX7 2) (C := RX7) (T := TX7) (N := 10) hx hb hts hiX7 tyX7 tyX7_ok nmX7 hown hK hP hD hS 0 rfl rfl 2 (by decide) (hts _ (List.mem_of_getElem? (i := 10) rfl)) (fun _ h9 => h9) rfl (tyX7_ok 2 (by decide)) rfl rfl (Nat.le_of_ble_eq_true rfl) dX7_stop_49 (fun H locs hP hD hS => ?_)
    have hP : va_P D vwCl [(tk, .inr (7, [.ref ta, .int tkm, .int tan, .int 0, .int y_2, .int tkv, .long tkc, .ref (ad 0), .int tkf, .int tkg])), (ta, .inr (6, [.ref tab, .int tan])), (tab, .inl (tabt, 940, .inl tabf))] H := hP
    have hD : va_D A [(tk, .inr (7, [.ref ta, .int tkm, .int tan, .int 0, .int y_2, .int tkv, .long tkc, .ref (ad 0), .int tkf, .int tkg])), (ta, .inr (6, [.ref tab, .int tan])), (tab, .inl (tabt, 940, .inl tabf))] := hD
    exact hret ([(tk, .inr (7, [.ref ta, .int tkm, .int tan, .int 0, .int y_2, .int tkv, .long tkc, .ref (ad 0), .int tkf, .int tkg])), (ta, .inr (6, [.ref tab, .int tan])), (tab, .inl (tabt, 940, .inl tabf))], []) _ _ _ _ dX7_stop_52 ⟨tan, 0, y_2, htan, (z_w (c := 0) (d := 4) (z_lit (x := 0) (a := 0) (b := 0) rfl) rfl), (z_so1 c_1 ey_2), rfl⟩ hP (hK.sub [] rfl) hD hS
  · skip
    have h_4 : z_in 0 939 tkm := z_ltL (Int32.not_le.mp c_1) htkm htan rfl
    have h_5 : z_in 1 940 tan := z_ltR (Int32.not_le.mp c_1) htkm htan rfl
    refine lv_iconst (v := 1) hx hb dX7_stop_15 (by decide) ?_
    refine lv_goto (tgt := 20) hx hb dX7_stop_16 (by decide) ?_
    refine va_put (D := D) (ci := 7) (v := .int 1) (ty := tyX7 3) (C := RX7) (T := TX7) (N := 10) hx hb hts hiX7 tyX7 tyX7_ok nmX7 hown hK hP hD hS 0 rfl rfl 3 (by decide) (hts _ (List.mem_of_getElem? (i := 4) rfl)) (fun _ h9 => h9) rfl (tyX7_ok 3 (by decide)) rfl rfl (Nat.le_of_ble_eq_true rfl) dX7_stop_20 (fun H locs hP hD hS => ?_)
    have hP : va_P D vwCl [(tk, .inr (7, [.ref ta, .int tkm, .int tkb, .int 1, .int tka, .int tkv, .long tkc, .ref (ad 0), .int tkf, .int tkg])), (ta, .inr (6, [.ref tab, .int tan])), (tab, .inl (tabt, 940, .inl tabf))] H := hP
    have hD : va_D A [(tk, .inr (7, [.ref ta, .int tkm, .int tkb, .int 1, .int tka, .int tkv, .long tkc, .ref (ad 0), .int tkf, .int tkg])), (ta, .inr (6, [.ref tab, .int tan])), (tab, .inl (tabt, 940, .inl tabf))] := hD
    refine lv_aload_n hx hb dX7_stop_23 rfl (lv_at hl 0 rfl) ?_
    refine lv_aload_n hx hb dX7_stop_24 rfl (lv_at hl 0 rfl) ?_
    refine va_get (D := D) (ci := 7) (v := .ref ta) (C := RX7) (T := TX7) (N := 10) hx hb hts hiX7 hown hK hP 0 rfl rfl 0 (by decide) (hts _ (List.mem_of_getElem? (i := 1) rfl)) (fun _ h9 => h9) rfl dX7_stop_25 ?_
    refine va_get (D := D) (ci := 6) (v := .int tan) (C := RX6) (T := TX6) (N := 2) hx hb hts hiX6 hown hK hP 1 rfl rfl 1 (by decide) (hts _ (List.mem_of_getElem? (i := 2) rfl)) (fun _ h9 => h9) rfl dX7_stop_28 ?_
    refine lv_aload_n hx hb dX7_stop_31 rfl (lv_at hl 0 rfl) ?_
    refine va_get (D := D) (ci := 7) (v := .int tkm) (C := RX7) (T := TX7) (N := 10) hx hb hts hiX7 hown hK hP 0 rfl rfl 1 (by decide) (hts _ (List.mem_of_getElem? (i := 3) rfl)) (fun _ h9 => h9) rfl dX7_stop_32 ?_
    refine va_mmin hx hb (by rw [hml]; exact hl.1.symm) hown (hts _ (List.mem_of_getElem? (i := 5) rfl)) (hts _ (List.mem_of_getElem? (i := 6) rfl)) (hts _ (List.mem_of_getElem? (i := 7) rfl)) (hts _ (List.mem_of_getElem? (i := 8) rfl)) (Nat.le_of_ble_eq_true rfl) (Nat.le_of_ble_eq_true rfl) (Nat.le_of_ble_eq_true rfl) (Nat.le_of_ble_eq_true rfl) dX7_stop_35 ?_
    refine lv_topi (fun y_6 ey_6 => ?_)
    have h_7 : z_in 0 939 y_6 := by rw [ey_6]; exact z_min h_5 h_4 rfl
    refine va_put (D := D) (ci := 7) (v := .int y_6) (ty := tyX7 4) (C := RX7) (T := TX7) (N := 10) hx hb hts hiX7 tyX7 tyX7_ok nmX7 hown hK hP hD hS 0 rfl rfl 4 (by decide) (hts _ (List.mem_of_getElem? (i := 9) rfl)) (fun _ h9 => h9) rfl (tyX7_ok 4 (by decide)) rfl rfl (Nat.le_of_ble_eq_true rfl) dX7_stop_38 (fun H locs hP hD hS => ?_)
    have hP : va_P D vwCl [(tk, .inr (7, [.ref ta, .int tkm, .int tkb, .int 1, .int y_6, .int tkv, .long tkc, .ref (ad 0), .int tkf, .int tkg])), (ta, .inr (6, [.ref tab, .int tan])), (tab, .inl (tabt, 940, .inl tabf))] H := hP
    have hD : va_D A [(tk, .inr (7, [.ref ta, .int tkm, .int tkb, .int 1, .int y_6, .int tkv, .long tkc, .ref (ad 0), .int tkf, .int tkg])), (ta, .inr (6, [.ref tab, .int tan])), (tab, .inl (tabt, 940, .inl tabf))] := hD
    refine lv_aload_n hx hb dX7_stop_41 rfl (lv_at hl 0 rfl) ?_
    refine lv_aload_n hx hb dX7_stop_42 rfl (lv_at hl 0 rfl) ?_
    refine va_get (D := D) (ci := 7) (v := .ref ta) (C := RX7) (T := TX7) (N := 10) hx hb hts hiX7 hown hK hP 0 rfl rfl 0 (by decide) (hts _ (List.mem_of_getElem? (i := 1) rfl)) (fun _ h9 => h9) rfl dX7_stop_43 ?_
    refine va_get (D := D) (ci := 6) (v := .int tan) (C := RX6) (T := TX6) (N := 2) hx hb hts hiX6 hown hK hP 1 rfl rfl 1 (by decide) (hts _ (List.mem_of_getElem? (i := 2) rfl)) (fun _ h9 => h9) rfl dX7_stop_46 ?_
    refine va_put (D := D) (ci := 7) (v := .int tan) (ty := tyX7 2) (C := RX7) (T := TX7) (N := 10) hx hb hts hiX7 tyX7 tyX7_ok nmX7 hown hK hP hD hS 0 rfl rfl 2 (by decide) (hts _ (List.mem_of_getElem? (i := 10) rfl)) (fun _ h9 => h9) rfl (tyX7_ok 2 (by decide)) rfl rfl (Nat.le_of_ble_eq_true rfl) dX7_stop_49 (fun H locs hP hD hS => ?_)
    have hP : va_P D vwCl [(tk, .inr (7, [.ref ta, .int tkm, .int tan, .int 1, .int y_6, .int tkv, .long tkc, .ref (ad 0), .int tkf, .int tkg])), (ta, .inr (6, [.ref tab, .int tan])), (tab, .inl (tabt, 940, .inl tabf))] H := hP
    have hD : va_D A [(tk, .inr (7, [.ref ta, .int tkm, .int tan, .int 1, .int y_6, .int tkv, .long tkc, .ref (ad 0), .int tkf, .int tkg])), (ta, .inr (6, [.ref tab, .int tan])), (tab, .inl (tabt, 940, .inl tabf))] := hD
    exact hret ([(tk, .inr (7, [.ref ta, .int tkm, .int tan, .int 1, .int y_6, .int tkv, .long tkc, .ref (ad 0), .int tkf, .int tkg])), (ta, .inr (6, [.ref tab, .int tan])), (tab, .inl (tabt, 940, .inl tabf))], []) _ _ _ _ dX7_stop_52 ⟨tan, 1, y_6, (z_w (c := 0) (d := 940) h_5 rfl), (z_w (c := 0) (d := 4) (z_lit (x := 1) (a := 1) (b := 1) rfl) rfl), (z_so2 (Int32.not_le.mp c_1) ey_6), rfl⟩ hP (hK.sub [] rfl) hD hS

set_option maxHeartbeats 8000000 in
set_option maxRecDepth 100000 in
theorem w_Tokens_readRun (l : Launch) (D : va_G) (ad : Nat → Nat) (tk : Nat) (tkm : Int32) (tkb : Int32) (tkk : Int32) (tka : Int32) (tkv : Int32) (tkc : Int64) (tkf : Int32) (tkg : Int32) (ta : Nat) (tan : Int32) (tab : Nat) (tabt : ClassId) (tabf : Nat → Int32) (i0 : Int32) (htkm : z_in 0 940 tkm) (htkb : z_in 0 940 tkb) (htkk : z_in 0 4 tkk) (htan : z_in 0 940 tan) (hi0 : z_in 0 939 i0) (hz0 : z_z0 tkv) (hy0 : z_y0 tkc) (hpa : z_pa tabf i0) (hl9 : z_lt9 i0 tan) : z_Mv l yX7_readRun wsX7_readRun { frames := 1, cells := 0, slots := 0, locals := 22 } D ad [.ref tk, .int i0] [(tk, .inr (7, [.ref ta, .int tkm, .int tkb, .int tkk, .int tka, .int tkv, .long tkc, .ref (ad 0), .int tkf, .int tkg])), (ta, .inr (6, [.ref tab, .int tan])), (tab, .inl (tabt, 940, .inl tabf))] [(tabt, .byte)] 0 0 (fun u9 => ∃ (x0_2 : Int32) (x0_3 : Int32) (x0_4 : Int32) (x0_5 : Int32) (x0_6 : Int64) (x0_7 : Nat), z_in 0 940 x0_2 ∧ z_in 0 4 x0_3 ∧ x0_7 < 22 ∧ z_tk x0_3 x0_7 ∧ z_ro z_cds tabf tan i0 x0_3 x0_5 x0_6 x0_7 x0_2 ∧ z_sz x0_4 i0 ∧ u9 = ([(tk, .inr (7, [.ref ta, .int tkm, .int x0_2, .int x0_3, .int x0_4, .int x0_5, .long x0_6, .ref (ad x0_7), .int tkf, .int tkg])), (ta, .inr (6, [.ref tab, .int tan])), (tab, .inl (tabt, 940, .inl tabf))], [])) := by
  refine z_ofV (cc := cX7_readRun) (maxL := 4) (by decide) rfl (Nat.le_of_ble_eq_true rfl) ?_
  intro p e s m below meth c Q A ls hx hb hml hown hts hin hK hP hD hA hE hO hS hl hret
  have hown : s.vm.findClass RX7 = some m.cls := hown
  have hiX7 : ∀ w ∈ wsX70, w ∈ wsX7_readRun := fun _ h9 => List.mem_cons_of_mem _ (List.mem_append_left _ (List.mem_append_right _ h9))
  have hiX6 : ∀ w ∈ wsX60, w ∈ wsX7_readRun := fun _ h9 => List.mem_cons_of_mem _ (List.mem_append_right _ h9)
  have hl : lv_has ls 4 [(0, .ref tk), (1, .int i0)] := hl
  refine lv_iconst (v := 0) hx hb dX7_readRun_0 (by decide) ?_
  refine lv_istore_n (lv' := [(2, .int 0), (0, .ref tk), (1, .int i0)]) hx hb dX7_readRun_1 rfl hl (by decide) rfl (fun ls hl => ?_)
  refine lv_iload_n hx hb dX7_readRun_2 rfl (lv_at hl 2 rfl) ?_
  refine lv_istore_n (lv' := [(3, .int i0), (2, .int 0), (0, .ref tk), (1, .int i0)]) hx hb dX7_readRun_3 rfl hl (by decide) rfl (fun ls hl => ?_)
  have LP1 : ∀ (n : Nat) (v1_2 : Int32) (v1_3 : Int32) (w1_2 : Int32) (w1_3 : Int64) (H : Heap) (locs : List Loc) (ls : Array Slot), z_in 0 940 v1_2 → z_in 0 940 v1_3 → z_rr tabf tan i0 v1_2 v1_3 w1_3 w1_2 → 941 - v1_3.toInt ≤ (n : Int) → va_P D vwCl [(tk, .inr (7, [.ref ta, .int tkm, .int tkb, .int tkk, .int tka, .int w1_2, .long w1_3, .ref (ad 0), .int tkf, .int tkg])), (ta, .inr (6, [.ref tab, .int tan])), (tab, .inl (tabt, 940, .inl tabf))] H → va_D A [(tk, .inr (7, [.ref ta, .int tkm, .int tkb, .int tkk, .int tka, .int w1_2, .long w1_3, .ref (ad 0), .int tkf, .int tkg])), (ta, .inr (6, [.ref tab, .int tan])), (tab, .inl (tabt, 940, .inl tabf))] → va_S A s.heap H locs → lv_has ls 4 [(3, .int v1_3), (2, .int v1_2), (0, .ref tk), (1, .int i0)] → W p l e ({ frames := 1, cells := 0, slots := 0, locals := 22 }) s m ([.ref tk, .int i0] : List Value).toArray below meth c H locs 0 0 Q (F0 m 4 ls []) := by
    intro n
    induction n with
    | zero => intro v1_2 v1_3 w1_2 w1_3 H locs ls hv1_2 hv1_3 hI1_0 hn1; exact absurd hn1 (by have q1 := hv1_3.1; have q2 := hv1_3.2; omega)
    | succ n ih1 =>
      intro v1_2 v1_3 w1_2 w1_3 H locs ls hv1_2 hv1_3 hI1_0 hn1 hP hD hS hl
      have q1 := hv1_3.1
      have q1' := hv1_3.2
      refine lv_iload_n hx hb dX7_readRun_4 rfl (lv_at hl 0 rfl) ?_
      refine lv_aload_n hx hb dX7_readRun_5 rfl (lv_at hl 2 rfl) ?_
      refine va_get (D := D) (ci := 7) (v := .ref ta) (C := RX7) (T := TX7) (N := 10) hx hb hts hiX7 hown hK hP 0 rfl rfl 0 (by decide) (hts _ (List.mem_of_getElem? (i := 1) rfl)) (fun _ h9 => h9) rfl dX7_readRun_6 ?_
      refine va_get (D := D) (ci := 6) (v := .int tan) (C := RX6) (T := TX6) (N := 2) hx hb hts hiX6 hown hK hP 1 rfl rfl 1 (by decide) (hts _ (List.mem_of_getElem? (i := 2) rfl)) (fun _ h9 => h9) rfl dX7_readRun_9 ?_
      refine lv_icmp_ge (tgt := 111) hx hb dX7_readRun_12 (by decide) (fun c_1 => ?_) (fun c_1 => ?_)
      · skip
        refine lv_aload_n hx hb dX7_readRun_111 rfl (lv_at hl 2 rfl) ?_
        refine lv_iload_n hx hb dX7_readRun_112 rfl (lv_at hl 3 rfl) ?_
        refine va_put (D := D) (ci := 7) (v := .int i0) (ty := tyX7 4) (C := RX7) (T := TX7) (N := 10) hx hb hts hiX7 tyX7 tyX7_ok nmX7 hown hK hP hD hS 0 rfl rfl 4 (by decide) (hts _ (List.mem_of_getElem? (i := 5) rfl)) (fun _ h9 => h9) rfl (tyX7_ok 4 (by decide)) rfl rfl (Nat.le_of_ble_eq_true rfl) dX7_readRun_113 (fun H locs hP hD hS => ?_)
        have hP : va_P D vwCl [(tk, .inr (7, [.ref ta, .int tkm, .int tkb, .int tkk, .int i0, .int w1_2, .long w1_3, .ref (ad 0), .int tkf, .int tkg])), (ta, .inr (6, [.ref tab, .int tan])), (tab, .inl (tabt, 940, .inl tabf))] H := hP
        have hD : va_D A [(tk, .inr (7, [.ref ta, .int tkm, .int tkb, .int tkk, .int i0, .int w1_2, .long w1_3, .ref (ad 0), .int tkf, .int tkg])), (ta, .inr (6, [.ref tab, .int tan])), (tab, .inl (tabt, 940, .inl tabf))] := hD
        refine lv_aload_n hx hb dX7_readRun_116 rfl (lv_at hl 2 rfl) ?_
        refine lv_iload_n hx hb dX7_readRun_117 rfl (lv_at hl 0 rfl) ?_
        refine va_put (D := D) (ci := 7) (v := .int v1_3) (ty := tyX7 2) (C := RX7) (T := TX7) (N := 10) hx hb hts hiX7 tyX7 tyX7_ok nmX7 hown hK hP hD hS 0 rfl rfl 2 (by decide) (hts _ (List.mem_of_getElem? (i := 6) rfl)) (fun _ h9 => h9) rfl (tyX7_ok 2 (by decide)) rfl rfl (Nat.le_of_ble_eq_true rfl) dX7_readRun_118 (fun H locs hP hD hS => ?_)
        have hP : va_P D vwCl [(tk, .inr (7, [.ref ta, .int tkm, .int v1_3, .int tkk, .int i0, .int w1_2, .long w1_3, .ref (ad 0), .int tkf, .int tkg])), (ta, .inr (6, [.ref tab, .int tan])), (tab, .inl (tabt, 940, .inl tabf))] H := hP
        have hD : va_D A [(tk, .inr (7, [.ref ta, .int tkm, .int v1_3, .int tkk, .int i0, .int w1_2, .long w1_3, .ref (ad 0), .int tkf, .int tkg])), (ta, .inr (6, [.ref tab, .int tan])), (tab, .inl (tabt, 940, .inl tabf))] := hD
        refine lv_aload_n hx hb dX7_readRun_121 rfl (lv_at hl 2 rfl) ?_
        refine lv_iload_n hx hb dX7_readRun_122 rfl (lv_at hl 1 rfl) ?_
        refine lv_iload_n hx hb dX7_readRun_123 rfl (lv_at hl 0 rfl) ?_
        refine lv_iload_n hx hb dX7_readRun_124 rfl (lv_at hl 3 rfl) ?_
        refine lv_isub hx hb dX7_readRun_125 ?_
        refine lv_topi (fun y_2 ey_2 => ?_)
        have h_3 : z_in (-939) 940 y_2 := by rw [ey_2]; exact z_sub hv1_3 hi0 rfl rfl
        refine lv_iload_n hx hb dX7_readRun_126 rfl (lv_at hl 1 rfl) ?_
        refine lv_isub hx hb dX7_readRun_127 ?_
        refine lv_topi (fun y_4 ey_4 => ?_)
        have h_5 : z_in (-1879) 940 y_4 := by rw [ey_4]; exact z_sub h_3 hv1_2 rfl rfl
        have hc9 := (w_Tokens_kindOfRun l D ad v1_2 y_4 )
        refine z_calli (w0 := []) (wr := [(tk, .inr (7, [.ref ta, .int tkm, .int v1_3, .int tkk, .int i0, .int w1_2, .long w1_3, .ref (ad 0), .int tkf, .int tkg])), (ta, .inr (6, [.ref tab, .int tan])), (tab, .inl (tabt, 940, .inl tabf))]) (va_runS (As := [.int v1_2, .int y_4]) (rest := [.ref tk]) ⟨hx, hb, hml, hown, hts⟩ (hc9 _) (va_cwS 2 hts gX7_readRun_X7_kindOfRun rfl rfl rfl (by decide +kernel) ⟨Nat.le_of_ble_eq_true rfl, Nat.le_of_ble_eq_true rfl⟩) (z_preS hP hD hK hS hA hE hO [] [] rfl (by decide +kernel) rfl) rfl rfl hl.1 rfl (lv_room (Nat.le_of_ble_eq_true rfl)) dX7_readRun_128 ⟨Nat.le_of_ble_eq_true rfl, Nat.le_of_ble_eq_true rfl⟩) hP hD hK hS hA [] [0, 1, 2] rfl rfl (by decide +kernel) (by decide +kernel) (fun y_6 u9 H locs hw hP hD hK hS => ?_)
        refine z_an6 hw (fun h_7 h_8 h_9 h_10 h_11 h_12 hw => ?_)
        subst hw
        have hP : va_P D vwCl [(tk, .inr (7, [.ref ta, .int tkm, .int v1_3, .int tkk, .int i0, .int w1_2, .long w1_3, .ref (ad 0), .int tkf, .int tkg])), (ta, .inr (6, [.ref tab, .int tan])), (tab, .inl (tabt, 940, .inl tabf))] H := hP
        have hD : va_D A [(tk, .inr (7, [.ref ta, .int tkm, .int v1_3, .int tkk, .int i0, .int w1_2, .long w1_3, .ref (ad 0), .int tkf, .int tkg])), (ta, .inr (6, [.ref tab, .int tan])), (tab, .inl (tabt, 940, .inl tabf))] := hD
        have hK : va_K D vwCl [(tabt, .byte)] s := hK
        refine W.cs (cells' := 0) (slots' := 0) rfl rfl ?_
        refine W.eq (g2 := F0 m 131 ls (.int y_6 :: [.ref tk])) rfl ?_
        refine va_put (D := D) (ci := 7) (v := .int y_6) (ty := tyX7 3) (C := RX7) (T := TX7) (N := 10) hx hb hts hiX7 tyX7 tyX7_ok nmX7 hown hK hP hD hS 0 rfl rfl 3 (by decide) (hts _ (List.mem_of_getElem? (i := 7) rfl)) (fun _ h9 => h9) rfl (tyX7_ok 3 (by decide)) rfl rfl (Nat.le_of_ble_eq_true rfl) dX7_readRun_131 (fun H locs hP hD hS => ?_)
        have hP : va_P D vwCl [(tk, .inr (7, [.ref ta, .int tkm, .int v1_3, .int y_6, .int i0, .int w1_2, .long w1_3, .ref (ad 0), .int tkf, .int tkg])), (ta, .inr (6, [.ref tab, .int tan])), (tab, .inl (tabt, 940, .inl tabf))] H := hP
        have hD : va_D A [(tk, .inr (7, [.ref ta, .int tkm, .int v1_3, .int y_6, .int i0, .int w1_2, .long w1_3, .ref (ad 0), .int tkf, .int tkg])), (ta, .inr (6, [.ref tab, .int tan])), (tab, .inl (tabt, 940, .inl tabf))] := hD
        refine lv_aload_n hx hb dX7_readRun_134 rfl (lv_at hl 2 rfl) ?_
        refine va_get (D := D) (ci := 7) (v := .int y_6) (C := RX7) (T := TX7) (N := 10) hx hb hts hiX7 hown hK hP 0 rfl rfl 3 (by decide) (hts _ (List.mem_of_getElem? (i := 7) rfl)) (fun _ h9 => h9) rfl dX7_readRun_135 ?_
        refine lv_iconst (v := 4) hx hb dX7_readRun_138 (by decide) ?_
        refine lv_icmp_ne (tgt := 153) hx hb dX7_readRun_139 (by decide) (fun c_13 => ?_) (fun c_13 => ?_)
        · skip
          have h_14 : z_in 1 3 y_6 := z_neHi c_13 h_7 (z_lit (x := 4) (a := 4) (b := 4) rfl) rfl
          exact hret ([(tk, .inr (7, [.ref ta, .int tkm, .int v1_3, .int y_6, .int i0, .int w1_2, .long w1_3, .ref (ad 0), .int tkf, .int tkg])), (ta, .inr (6, [.ref tab, .int tan])), (tab, .inl (tabt, 940, .inl tabf))], []) _ _ _ _ dX7_readRun_153 ⟨v1_3, y_6, i0, w1_2, w1_3, 0, hv1_3, (z_w (c := 0) (d := 4) h_14 rfl), (by decide), (z_tk0 y_6), (z_ro0 hI1_0 hpa hl9 (z_pxT c_1) hv1_3 ey_4 ey_2 h_12 c_13), (show z_sz i0 i0 from rfl), rfl⟩ hP (hK.sub [] rfl) hD hS
        · skip
          have h_15 : z_in 4 4 y_6 := z_leR (Int32.le_of_eq (Eq.symm c_13)) (z_lit (x := 4) (a := 4) (b := 4) rfl) h_7 rfl
          have h_16 : z_in 0 7 v1_2 := z_both hv1_2 (h_10 (z_eqk h_15 rfl)) rfl
          have h_17 : z_in 0 0 y_4 := z_both h_5 (h_11 (z_eqk h_15 rfl)) rfl
          refine lv_aload_n hx hb dX7_readRun_142 rfl (lv_at hl 2 rfl) ?_
          refine lv_aload_n hx hb dX7_readRun_143 rfl (lv_at hl 2 rfl) ?_
          refine va_get (D := D) (ci := 7) (v := .long w1_3) (C := RX7) (T := TX7) (N := 10) hx hb hts hiX7 hown hK hP 0 rfl rfl 6 (by decide) (hts _ (List.mem_of_getElem? (i := 3) rfl)) (fun _ h9 => h9) rfl dX7_readRun_144 ?_
          have hc9 := (w_Word_withCode l D ad w1_3 )
          refine z_callr (w0 := []) (wr := [(tk, .inr (7, [.ref ta, .int tkm, .int v1_3, .int y_6, .int i0, .int w1_2, .long w1_3, .ref (ad 0), .int tkf, .int tkg])), (ta, .inr (6, [.ref tab, .int tan])), (tab, .inl (tabt, 940, .inl tabf))]) (va_runS (As := [.long w1_3]) (rest := [.ref tk]) ⟨hx, hb, hml, hown, hts⟩ (hc9 _) (va_cwS 1 hts gX7_readRun_X9_withCode rfl rfl rfl (by decide +kernel) ⟨Nat.le_of_ble_eq_true rfl, Nat.le_of_ble_eq_true rfl⟩) (z_preS hP hD hK hS hA hE hO [] [] rfl (by decide +kernel) rfl) rfl rfl hl.1 rfl (lv_room (Nat.le_of_ble_eq_true rfl)) dX7_readRun_147 ⟨Nat.le_of_ble_eq_true rfl, Nat.le_of_ble_eq_true rfl⟩) hP hD hK hS hA [] [0, 1, 2] rfl rfl (by decide +kernel) (by decide +kernel) (fun u9 H locs hw hP hD hK hS => ?_)
          obtain ⟨w_18, h_19, h_20, rfl⟩ := hw
          have hP : va_P D vwCl [(tk, .inr (7, [.ref ta, .int tkm, .int v1_3, .int y_6, .int i0, .int w1_2, .long w1_3, .ref (ad 0), .int tkf, .int tkg])), (ta, .inr (6, [.ref tab, .int tan])), (tab, .inl (tabt, 940, .inl tabf))] H := hP
          have hD : va_D A [(tk, .inr (7, [.ref ta, .int tkm, .int v1_3, .int y_6, .int i0, .int w1_2, .long w1_3, .ref (ad 0), .int tkf, .int tkg])), (ta, .inr (6, [.ref tab, .int tan])), (tab, .inl (tabt, 940, .inl tabf))] := hD
          have hK : va_K D vwCl [(tabt, .byte)] s := hK
          refine W.cs (cells' := 0) (slots' := 0) rfl rfl ?_
          refine W.eq (g2 := F0 m 150 ls (.ref (ad w_18) :: [.ref tk])) rfl ?_
          refine va_put (D := D) (ci := 7) (v := .ref (ad w_18)) (ty := tyX7 7) (C := RX7) (T := TX7) (N := 10) hx hb hts hiX7 tyX7 tyX7_ok nmX7 hown hK hP hD hS 0 rfl rfl 7 (by decide) (hts _ (List.mem_of_getElem? (i := 8) rfl)) (fun _ h9 => h9) rfl (tyX7_ok 7 (by decide)) rfl rfl (Nat.le_of_ble_eq_true rfl) dX7_readRun_150 (fun H locs hP hD hS => ?_)
          have hP : va_P D vwCl [(tk, .inr (7, [.ref ta, .int tkm, .int v1_3, .int y_6, .int i0, .int w1_2, .long w1_3, .ref (ad w_18), .int tkf, .int tkg])), (ta, .inr (6, [.ref tab, .int tan])), (tab, .inl (tabt, 940, .inl tabf))] H := hP
          have hD : va_D A [(tk, .inr (7, [.ref ta, .int tkm, .int v1_3, .int y_6, .int i0, .int w1_2, .long w1_3, .ref (ad w_18), .int tkf, .int tkg])), (ta, .inr (6, [.ref tab, .int tan])), (tab, .inl (tabt, 940, .inl tabf))] := hD
          exact hret ([(tk, .inr (7, [.ref ta, .int tkm, .int v1_3, .int y_6, .int i0, .int w1_2, .long w1_3, .ref (ad w_18), .int tkf, .int tkg])), (ta, .inr (6, [.ref tab, .int tan])), (tab, .inl (tabt, 940, .inl tabf))], []) _ _ _ _ dX7_readRun_153 ⟨v1_3, y_6, i0, w1_2, w1_3, w_18, hv1_3, (z_w (c := 0) (d := 4) h_15 rfl), h_19, (z_tk4 w_18 h_15), (z_ro4 hI1_0 hpa hl9 (z_pxT c_1) hv1_3 ey_4 ey_2 h_12 (z_eqk h_15 rfl) h_20), (show z_sz i0 i0 from rfl), rfl⟩ hP (hK.sub [] rfl) hD hS
      · skip
        have h_21 : z_in 0 939 v1_3 := z_ltL (Int32.not_le.mp c_1) hv1_3 htan rfl
        have h_22 : z_in 1 940 tan := z_ltR (Int32.not_le.mp c_1) hv1_3 htan rfl
        refine lv_aload_n hx hb dX7_readRun_15 rfl (lv_at hl 2 rfl) ?_
        refine va_get (D := D) (ci := 7) (v := .ref ta) (C := RX7) (T := TX7) (N := 10) hx hb hts hiX7 hown hK hP 0 rfl rfl 0 (by decide) (hts _ (List.mem_of_getElem? (i := 1) rfl)) (fun _ h9 => h9) rfl dX7_readRun_16 ?_
        refine lv_iload_n hx hb dX7_readRun_19 rfl (lv_at hl 0 rfl) ?_
        have hc9 := (w_Tape940_get l D ad ta tan tab tabt tabf v1_3 (z_w (c := 0) (d := 940) h_22 rfl))
        refine z_calli (w0 := [(ta, .inr (6, [.ref tab, .int tan])), (tab, .inl (tabt, 940, .inl tabf))]) (wr := [(tk, .inr (7, [.ref ta, .int tkm, .int tkb, .int tkk, .int tka, .int w1_2, .long w1_3, .ref (ad 0), .int tkf, .int tkg]))]) (va_runV (As := [.int v1_3]) (rest := []) ⟨hx, hb, hml, hown, hts⟩ (hc9 _) (cwV 1 hts gX7_readRun_X6_get rfl rfl rfl (by decide +kernel) ⟨Nat.le_of_ble_eq_true rfl, Nat.le_of_ble_eq_true rfl⟩) (z_preV hP hD hK hS hA hE hO [1, 2] [0] rfl (by decide +kernel) rfl 1 6 rfl rfl rfl) rfl rfl hl.1 rfl (lv_room (Nat.le_of_ble_eq_true rfl)) dX7_readRun_20 ⟨Nat.le_of_ble_eq_true rfl, Nat.le_of_ble_eq_true rfl⟩) hP hD hK hS hA [1, 2] [0] rfl rfl (by decide +kernel) (by decide +kernel) (fun y_23 u9 H locs hw hP hD hK hS => ?_)
        obtain ⟨h_24, h_25, h_26, h_27, rfl⟩ := hw
        have hP : va_P D vwCl [(tk, .inr (7, [.ref ta, .int tkm, .int tkb, .int tkk, .int tka, .int w1_2, .long w1_3, .ref (ad 0), .int tkf, .int tkg])), (ta, .inr (6, [.ref tab, .int tan])), (tab, .inl (tabt, 940, .inl tabf))] H := hP
        have hD : va_D A [(tk, .inr (7, [.ref ta, .int tkm, .int tkb, .int tkk, .int tka, .int w1_2, .long w1_3, .ref (ad 0), .int tkf, .int tkg])), (ta, .inr (6, [.ref tab, .int tan])), (tab, .inl (tabt, 940, .inl tabf))] := hD
        have hK : va_K D vwCl [(tabt, .byte)] s := hK
        refine W.cs (cells' := 0) (slots' := 0) rfl rfl ?_
        refine W.eq (g2 := F0 m 23 ls (.int y_23 :: [])) rfl ?_
        have hc9 := (w_Tokens_isLetter l D ad y_23 )
        refine z_calli (w0 := []) (wr := [(tk, .inr (7, [.ref ta, .int tkm, .int tkb, .int tkk, .int tka, .int w1_2, .long w1_3, .ref (ad 0), .int tkf, .int tkg])), (ta, .inr (6, [.ref tab, .int tan])), (tab, .inl (tabt, 940, .inl tabf))]) (va_runS (As := [.int y_23]) (rest := []) ⟨hx, hb, hml, hown, hts⟩ (hc9 _) (va_cwS 1 hts gX7_readRun_X7_isLetter rfl rfl rfl (by decide +kernel) ⟨Nat.le_of_ble_eq_true rfl, Nat.le_of_ble_eq_true rfl⟩) (z_preS hP hD hK hS hA hE hO [] [] rfl (by decide +kernel) rfl) rfl rfl hl.1 rfl (lv_room (Nat.le_of_ble_eq_true rfl)) dX7_readRun_23 ⟨Nat.le_of_ble_eq_true rfl, Nat.le_of_ble_eq_true rfl⟩) hP hD hK hS hA [] [0, 1, 2] rfl rfl (by decide +kernel) (by decide +kernel) (fun y_28 u9 H locs hw hP hD hK hS => ?_)
        obtain ⟨h_29, h_30, h_31, rfl⟩ := hw
        have hP : va_P D vwCl [(tk, .inr (7, [.ref ta, .int tkm, .int tkb, .int tkk, .int tka, .int w1_2, .long w1_3, .ref (ad 0), .int tkf, .int tkg])), (ta, .inr (6, [.ref tab, .int tan])), (tab, .inl (tabt, 940, .inl tabf))] H := hP
        have hD : va_D A [(tk, .inr (7, [.ref ta, .int tkm, .int tkb, .int tkk, .int tka, .int w1_2, .long w1_3, .ref (ad 0), .int tkf, .int tkg])), (ta, .inr (6, [.ref tab, .int tan])), (tab, .inl (tabt, 940, .inl tabf))] := hD
        have hK : va_K D vwCl [(tabt, .byte)] s := hK
        refine W.cs (cells' := 0) (slots' := 0) rfl rfl ?_
        refine W.eq (g2 := F0 m 26 ls (.int y_28 :: [])) rfl ?_
        refine lv_if_ne (tgt := 43) hx hb dX7_readRun_26 (by decide) (fun c_32 => ?_) (fun c_32 => ?_)
        · skip
          have h_33 : z_in 1 1 y_28 := z_neLo c_32 h_29 (z_lit (x := 0) (a := 0) (b := 0) rfl) rfl
          have h_34 : z_in 97 122 y_23 := z_both h_24 (h_30 (z_eqk h_33 rfl)) rfl
          refine lv_aload_n hx hb dX7_readRun_43 rfl (lv_at hl 2 rfl) ?_
          refine va_get (D := D) (ci := 7) (v := .ref ta) (C := RX7) (T := TX7) (N := 10) hx hb hts hiX7 hown hK hP 0 rfl rfl 0 (by decide) (hts _ (List.mem_of_getElem? (i := 1) rfl)) (fun _ h9 => h9) rfl dX7_readRun_44 ?_
          refine lv_iload_n hx hb dX7_readRun_47 rfl (lv_at hl 0 rfl) ?_
          have hc9 := (w_Tape940_get l D ad ta tan tab tabt tabf v1_3 (z_w (c := 0) (d := 940) h_22 rfl))
          refine z_calli (w0 := [(ta, .inr (6, [.ref tab, .int tan])), (tab, .inl (tabt, 940, .inl tabf))]) (wr := [(tk, .inr (7, [.ref ta, .int tkm, .int tkb, .int tkk, .int tka, .int w1_2, .long w1_3, .ref (ad 0), .int tkf, .int tkg]))]) (va_runV (As := [.int v1_3]) (rest := []) ⟨hx, hb, hml, hown, hts⟩ (hc9 _) (cwV 1 hts gX7_readRun_X6_get rfl rfl rfl (by decide +kernel) ⟨Nat.le_of_ble_eq_true rfl, Nat.le_of_ble_eq_true rfl⟩) (z_preV hP hD hK hS hA hE hO [1, 2] [0] rfl (by decide +kernel) rfl 1 6 rfl rfl rfl) rfl rfl hl.1 rfl (lv_room (Nat.le_of_ble_eq_true rfl)) dX7_readRun_48 ⟨Nat.le_of_ble_eq_true rfl, Nat.le_of_ble_eq_true rfl⟩) hP hD hK hS hA [1, 2] [0] rfl rfl (by decide +kernel) (by decide +kernel) (fun y_35 u9 H locs hw hP hD hK hS => ?_)
          obtain ⟨h_36, h_37, h_38, h_39, rfl⟩ := hw
          have hP : va_P D vwCl [(tk, .inr (7, [.ref ta, .int tkm, .int tkb, .int tkk, .int tka, .int w1_2, .long w1_3, .ref (ad 0), .int tkf, .int tkg])), (ta, .inr (6, [.ref tab, .int tan])), (tab, .inl (tabt, 940, .inl tabf))] H := hP
          have hD : va_D A [(tk, .inr (7, [.ref ta, .int tkm, .int tkb, .int tkk, .int tka, .int w1_2, .long w1_3, .ref (ad 0), .int tkf, .int tkg])), (ta, .inr (6, [.ref tab, .int tan])), (tab, .inl (tabt, 940, .inl tabf))] := hD
          have hK : va_K D vwCl [(tabt, .byte)] s := hK
          refine W.cs (cells' := 0) (slots' := 0) rfl rfl ?_
          refine W.eq (g2 := F0 m 51 ls (.int y_35 :: [])) rfl ?_
          have hc9 := (w_Tokens_isLetter l D ad y_35 )
          refine z_calli (w0 := []) (wr := [(tk, .inr (7, [.ref ta, .int tkm, .int tkb, .int tkk, .int tka, .int w1_2, .long w1_3, .ref (ad 0), .int tkf, .int tkg])), (ta, .inr (6, [.ref tab, .int tan])), (tab, .inl (tabt, 940, .inl tabf))]) (va_runS (As := [.int y_35]) (rest := []) ⟨hx, hb, hml, hown, hts⟩ (hc9 _) (va_cwS 1 hts gX7_readRun_X7_isLetter rfl rfl rfl (by decide +kernel) ⟨Nat.le_of_ble_eq_true rfl, Nat.le_of_ble_eq_true rfl⟩) (z_preS hP hD hK hS hA hE hO [] [] rfl (by decide +kernel) rfl) rfl rfl hl.1 rfl (lv_room (Nat.le_of_ble_eq_true rfl)) dX7_readRun_51 ⟨Nat.le_of_ble_eq_true rfl, Nat.le_of_ble_eq_true rfl⟩) hP hD hK hS hA [] [0, 1, 2] rfl rfl (by decide +kernel) (by decide +kernel) (fun y_40 u9 H locs hw hP hD hK hS => ?_)
          obtain ⟨h_41, h_42, h_43, rfl⟩ := hw
          have hP : va_P D vwCl [(tk, .inr (7, [.ref ta, .int tkm, .int tkb, .int tkk, .int tka, .int w1_2, .long w1_3, .ref (ad 0), .int tkf, .int tkg])), (ta, .inr (6, [.ref tab, .int tan])), (tab, .inl (tabt, 940, .inl tabf))] H := hP
          have hD : va_D A [(tk, .inr (7, [.ref ta, .int tkm, .int tkb, .int tkk, .int tka, .int w1_2, .long w1_3, .ref (ad 0), .int tkf, .int tkg])), (ta, .inr (6, [.ref tab, .int tan])), (tab, .inl (tabt, 940, .inl tabf))] := hD
          have hK : va_K D vwCl [(tabt, .byte)] s := hK
          refine W.cs (cells' := 0) (slots' := 0) rfl rfl ?_
          refine W.eq (g2 := F0 m 54 ls (.int y_40 :: [])) rfl ?_
          refine lv_if_eq (tgt := 82) hx hb dX7_readRun_54 (by decide) (fun c_44 => ?_) (fun c_44 => ?_)
          · skip
            have h_45 : z_in 0 0 y_40 := z_leL (Int32.le_of_eq c_44) h_41 (z_lit (x := 0) (a := 0) (b := 0) rfl) rfl
            refine lv_aload_n hx hb dX7_readRun_82 rfl (lv_at hl 2 rfl) ?_
            refine lv_aload_n hx hb dX7_readRun_83 rfl (lv_at hl 2 rfl) ?_
            refine va_get (D := D) (ci := 7) (v := .int w1_2) (C := RX7) (T := TX7) (N := 10) hx hb hts hiX7 hown hK hP 0 rfl rfl 5 (by decide) (hts _ (List.mem_of_getElem? (i := 4) rfl)) (fun _ h9 => h9) rfl dX7_readRun_84 ?_
            refine lv_bipush (v := 10) hx hb dX7_readRun_87 (by decide) ?_
            refine lv_imul hx hb dX7_readRun_89 ?_
            refine lv_topi (fun y_46 ey_46 => ?_)
            refine lv_aload_n hx hb dX7_readRun_90 rfl (lv_at hl 2 rfl) ?_
            refine va_get (D := D) (ci := 7) (v := .ref ta) (C := RX7) (T := TX7) (N := 10) hx hb hts hiX7 hown hK hP 0 rfl rfl 0 (by decide) (hts _ (List.mem_of_getElem? (i := 1) rfl)) (fun _ h9 => h9) rfl dX7_readRun_91 ?_
            refine lv_iload_n hx hb dX7_readRun_94 rfl (lv_at hl 0 rfl) ?_
            have hc9 := (w_Tape940_get l D ad ta tan tab tabt tabf v1_3 (z_w (c := 0) (d := 940) h_22 rfl))
            refine z_calli (w0 := [(ta, .inr (6, [.ref tab, .int tan])), (tab, .inl (tabt, 940, .inl tabf))]) (wr := [(tk, .inr (7, [.ref ta, .int tkm, .int tkb, .int tkk, .int tka, .int w1_2, .long w1_3, .ref (ad 0), .int tkf, .int tkg]))]) (va_runV (As := [.int v1_3]) (rest := [.int y_46, .ref tk]) ⟨hx, hb, hml, hown, hts⟩ (hc9 _) (cwV 1 hts gX7_readRun_X6_get rfl rfl rfl (by decide +kernel) ⟨Nat.le_of_ble_eq_true rfl, Nat.le_of_ble_eq_true rfl⟩) (z_preV hP hD hK hS hA hE hO [1, 2] [0] rfl (by decide +kernel) rfl 1 6 rfl rfl rfl) rfl rfl hl.1 rfl (lv_room (Nat.le_of_ble_eq_true rfl)) dX7_readRun_95 ⟨Nat.le_of_ble_eq_true rfl, Nat.le_of_ble_eq_true rfl⟩) hP hD hK hS hA [1, 2] [0] rfl rfl (by decide +kernel) (by decide +kernel) (fun y_47 u9 H locs hw hP hD hK hS => ?_)
            obtain ⟨h_48, h_49, h_50, h_51, rfl⟩ := hw
            have hP : va_P D vwCl [(tk, .inr (7, [.ref ta, .int tkm, .int tkb, .int tkk, .int tka, .int w1_2, .long w1_3, .ref (ad 0), .int tkf, .int tkg])), (ta, .inr (6, [.ref tab, .int tan])), (tab, .inl (tabt, 940, .inl tabf))] H := hP
            have hD : va_D A [(tk, .inr (7, [.ref ta, .int tkm, .int tkb, .int tkk, .int tka, .int w1_2, .long w1_3, .ref (ad 0), .int tkf, .int tkg])), (ta, .inr (6, [.ref tab, .int tan])), (tab, .inl (tabt, 940, .inl tabf))] := hD
            have hK : va_K D vwCl [(tabt, .byte)] s := hK
            refine W.cs (cells' := 0) (slots' := 0) rfl rfl ?_
            refine W.eq (g2 := F0 m 98 ls (.int y_47 :: [.int y_46, .ref tk])) rfl ?_
            refine lv_bipush (v := 48) hx hb dX7_readRun_98 (by decide) ?_
            refine lv_isub hx hb dX7_readRun_100 ?_
            refine lv_topi (fun y_52 ey_52 => ?_)
            have h_53 : z_in (-49) 207 y_52 := by rw [ey_52]; exact z_sub h_48 (z_lit (x := 48) (a := 48) (b := 48) rfl) rfl rfl
            have ty_52 : y_52.toInt = y_47.toInt + (-48) := by rw [ey_52]; exact (z_subT h_48 (z_lit (x := 48) (a := 48) (b := 48) rfl) rfl).trans rfl
            refine lv_iadd hx hb dX7_readRun_101 ?_
            refine lv_topi (fun y_54 ey_54 => ?_)
            refine va_put (D := D) (ci := 7) (v := .int y_54) (ty := tyX7 5) (C := RX7) (T := TX7) (N := 10) hx hb hts hiX7 tyX7 tyX7_ok nmX7 hown hK hP hD hS 0 rfl rfl 5 (by decide) (hts _ (List.mem_of_getElem? (i := 4) rfl)) (fun _ h9 => h9) rfl (tyX7_ok 5 (by decide)) rfl rfl (Nat.le_of_ble_eq_true rfl) dX7_readRun_102 (fun H locs hP hD hS => ?_)
            have hP : va_P D vwCl [(tk, .inr (7, [.ref ta, .int tkm, .int tkb, .int tkk, .int tka, .int y_54, .long w1_3, .ref (ad 0), .int tkf, .int tkg])), (ta, .inr (6, [.ref tab, .int tan])), (tab, .inl (tabt, 940, .inl tabf))] H := hP
            have hD : va_D A [(tk, .inr (7, [.ref ta, .int tkm, .int tkb, .int tkk, .int tka, .int y_54, .long w1_3, .ref (ad 0), .int tkf, .int tkg])), (ta, .inr (6, [.ref tab, .int tan])), (tab, .inl (tabt, 940, .inl tabf))] := hD
            obtain ⟨y_55, ey_55⟩ : ∃ y : Int32, y = v1_3 + 1 := ⟨_, rfl⟩
            have h_56 : z_in 1 940 y_55 := by rw [ey_55]; exact z_add h_21 (z_lit (x := 1) (a := 1) (b := 1) rfl) rfl rfl
            have ty_55 : y_55.toInt = v1_3.toInt + 1 := by rw [ey_55]; exact z_addT h_21 (z_lit (x := 1) (a := 1) (b := 1) rfl) rfl
            refine lv_iinc (v := y_55) (lv' := [(3, .int y_55), (2, .int v1_2), (0, .ref tk), (1, .int i0)]) hx hb dX7_readRun_105 hl (k := 0) rfl (by rw [ey_55]; rfl) (by decide) rfl (fun ls hl => ?_)
            refine lv_goto (tgt := 4) hx hb dX7_readRun_108 (by decide) ?_
            exact ih1 v1_2 y_55 y_54 w1_3 _ _ _ hv1_2 (z_w (c := 0) (d := 940) h_56 rfl) (z_rrX ty_55 h_21 (Int32.not_le.mp c_1) h_31 (z_eqk h_33 rfl) h_27 h_43 (z_eqk h_45 rfl) h_39) (by omega) hP hD hS (lv_sub hl [0, 1, 2, 3] rfl)
          · skip
            have h_57 : z_in 1 1 y_40 := z_neLo c_44 h_41 (z_lit (x := 0) (a := 0) (b := 0) rfl) rfl
            have h_58 : z_in 97 122 y_35 := z_both h_36 (h_42 (z_eqk h_57 rfl)) rfl
            refine lv_aload_n hx hb dX7_readRun_57 rfl (lv_at hl 2 rfl) ?_
            refine lv_aload_n hx hb dX7_readRun_58 rfl (lv_at hl 2 rfl) ?_
            refine va_get (D := D) (ci := 7) (v := .long w1_3) (C := RX7) (T := TX7) (N := 10) hx hb hts hiX7 hown hK hP 0 rfl rfl 6 (by decide) (hts _ (List.mem_of_getElem? (i := 3) rfl)) (fun _ h9 => h9) rfl dX7_readRun_59 ?_
            refine lv_aload_n hx hb dX7_readRun_62 rfl (lv_at hl 2 rfl) ?_
            refine va_get (D := D) (ci := 7) (v := .ref ta) (C := RX7) (T := TX7) (N := 10) hx hb hts hiX7 hown hK hP 0 rfl rfl 0 (by decide) (hts _ (List.mem_of_getElem? (i := 1) rfl)) (fun _ h9 => h9) rfl dX7_readRun_63 ?_
            refine lv_iload_n hx hb dX7_readRun_66 rfl (lv_at hl 0 rfl) ?_
            have hc9 := (w_Tape940_get l D ad ta tan tab tabt tabf v1_3 (z_w (c := 0) (d := 940) h_22 rfl))
            refine z_calli (w0 := [(ta, .inr (6, [.ref tab, .int tan])), (tab, .inl (tabt, 940, .inl tabf))]) (wr := [(tk, .inr (7, [.ref ta, .int tkm, .int tkb, .int tkk, .int tka, .int w1_2, .long w1_3, .ref (ad 0), .int tkf, .int tkg]))]) (va_runV (As := [.int v1_3]) (rest := [.long w1_3, .ref tk]) ⟨hx, hb, hml, hown, hts⟩ (hc9 _) (cwV 1 hts gX7_readRun_X6_get rfl rfl rfl (by decide +kernel) ⟨Nat.le_of_ble_eq_true rfl, Nat.le_of_ble_eq_true rfl⟩) (z_preV hP hD hK hS hA hE hO [1, 2] [0] rfl (by decide +kernel) rfl 1 6 rfl rfl rfl) rfl rfl hl.1 rfl (lv_room (Nat.le_of_ble_eq_true rfl)) dX7_readRun_67 ⟨Nat.le_of_ble_eq_true rfl, Nat.le_of_ble_eq_true rfl⟩) hP hD hK hS hA [1, 2] [0] rfl rfl (by decide +kernel) (by decide +kernel) (fun y_59 u9 H locs hw hP hD hK hS => ?_)
            obtain ⟨h_60, h_61, h_62, h_63, rfl⟩ := hw
            have hP : va_P D vwCl [(tk, .inr (7, [.ref ta, .int tkm, .int tkb, .int tkk, .int tka, .int w1_2, .long w1_3, .ref (ad 0), .int tkf, .int tkg])), (ta, .inr (6, [.ref tab, .int tan])), (tab, .inl (tabt, 940, .inl tabf))] H := hP
            have hD : va_D A [(tk, .inr (7, [.ref ta, .int tkm, .int tkb, .int tkk, .int tka, .int w1_2, .long w1_3, .ref (ad 0), .int tkf, .int tkg])), (ta, .inr (6, [.ref tab, .int tan])), (tab, .inl (tabt, 940, .inl tabf))] := hD
            have hK : va_K D vwCl [(tabt, .byte)] s := hK
            refine W.cs (cells' := 0) (slots' := 0) rfl rfl ?_
            refine W.eq (g2 := F0 m 70 ls (.int y_59 :: [.long w1_3, .ref tk])) rfl ?_
            have hc9 := (w_Word_withLetter l D ad w1_3 y_59 )
            refine z_calll (w0 := []) (wr := [(tk, .inr (7, [.ref ta, .int tkm, .int tkb, .int tkk, .int tka, .int w1_2, .long w1_3, .ref (ad 0), .int tkf, .int tkg])), (ta, .inr (6, [.ref tab, .int tan])), (tab, .inl (tabt, 940, .inl tabf))]) (va_runS (As := [.long w1_3, .int y_59]) (rest := [.ref tk]) ⟨hx, hb, hml, hown, hts⟩ (hc9 _) (va_cwS 2 hts gX7_readRun_X9_withLetter rfl rfl rfl (by decide +kernel) ⟨Nat.le_of_ble_eq_true rfl, Nat.le_of_ble_eq_true rfl⟩) (z_preS hP hD hK hS hA hE hO [] [] rfl (by decide +kernel) rfl) rfl rfl hl.1 rfl (lv_room (Nat.le_of_ble_eq_true rfl)) dX7_readRun_70 ⟨Nat.le_of_ble_eq_true rfl, Nat.le_of_ble_eq_true rfl⟩) hP hD hK hS hA [] [0, 1, 2] rfl rfl (by decide +kernel) (by decide +kernel) (fun y_64 u9 H locs hw hP hD hK hS => ?_)
            obtain ⟨h_65, rfl⟩ := hw
            have hP : va_P D vwCl [(tk, .inr (7, [.ref ta, .int tkm, .int tkb, .int tkk, .int tka, .int w1_2, .long w1_3, .ref (ad 0), .int tkf, .int tkg])), (ta, .inr (6, [.ref tab, .int tan])), (tab, .inl (tabt, 940, .inl tabf))] H := hP
            have hD : va_D A [(tk, .inr (7, [.ref ta, .int tkm, .int tkb, .int tkk, .int tka, .int w1_2, .long w1_3, .ref (ad 0), .int tkf, .int tkg])), (ta, .inr (6, [.ref tab, .int tan])), (tab, .inl (tabt, 940, .inl tabf))] := hD
            have hK : va_K D vwCl [(tabt, .byte)] s := hK
            refine W.cs (cells' := 0) (slots' := 0) rfl rfl ?_
            refine W.eq (g2 := F0 m 73 ls (.long y_64 :: [.ref tk])) rfl ?_
            refine va_put (D := D) (ci := 7) (v := .long y_64) (ty := tyX7 6) (C := RX7) (T := TX7) (N := 10) hx hb hts hiX7 tyX7 tyX7_ok nmX7 hown hK hP hD hS 0 rfl rfl 6 (by decide) (hts _ (List.mem_of_getElem? (i := 3) rfl)) (fun _ h9 => h9) rfl (tyX7_ok 6 (by decide)) rfl rfl (Nat.le_of_ble_eq_true rfl) dX7_readRun_73 (fun H locs hP hD hS => ?_)
            have hP : va_P D vwCl [(tk, .inr (7, [.ref ta, .int tkm, .int tkb, .int tkk, .int tka, .int w1_2, .long y_64, .ref (ad 0), .int tkf, .int tkg])), (ta, .inr (6, [.ref tab, .int tan])), (tab, .inl (tabt, 940, .inl tabf))] H := hP
            have hD : va_D A [(tk, .inr (7, [.ref ta, .int tkm, .int tkb, .int tkk, .int tka, .int w1_2, .long y_64, .ref (ad 0), .int tkf, .int tkg])), (ta, .inr (6, [.ref tab, .int tan])), (tab, .inl (tabt, 940, .inl tabf))] := hD
            have h_66 : z_in 0 939 v1_2 := z_rrB hI1_0 h_21
            obtain ⟨y_67, ey_67⟩ : ∃ y : Int32, y = v1_2 + 1 := ⟨_, rfl⟩
            have h_68 : z_in 1 940 y_67 := by rw [ey_67]; exact z_add h_66 (z_lit (x := 1) (a := 1) (b := 1) rfl) rfl rfl
            have ty_67 : y_67.toInt = v1_2.toInt + 1 := by rw [ey_67]; exact z_addT h_66 (z_lit (x := 1) (a := 1) (b := 1) rfl) rfl
            refine lv_iinc (v := y_67) (lv' := [(2, .int y_67), (3, .int v1_3), (0, .ref tk), (1, .int i0)]) hx hb dX7_readRun_76 hl (k := 1) rfl (by rw [ey_67]; rfl) (by decide) rfl (fun ls hl => ?_)
            refine lv_goto (tgt := 105) hx hb dX7_readRun_79 (by decide) ?_
            obtain ⟨y_69, ey_69⟩ : ∃ y : Int32, y = v1_3 + 1 := ⟨_, rfl⟩
            have h_70 : z_in 1 940 y_69 := by rw [ey_69]; exact z_add h_21 (z_lit (x := 1) (a := 1) (b := 1) rfl) rfl rfl
            have ty_69 : y_69.toInt = v1_3.toInt + 1 := by rw [ey_69]; exact z_addT h_21 (z_lit (x := 1) (a := 1) (b := 1) rfl) rfl
            refine lv_iinc (v := y_69) (lv' := [(3, .int y_69), (2, .int y_67), (0, .ref tk), (1, .int i0)]) hx hb dX7_readRun_105 hl (k := 1) rfl (by rw [ey_69]; rfl) (by decide) rfl (fun ls hl => ?_)
            refine lv_goto (tgt := 4) hx hb dX7_readRun_108 (by decide) ?_
            exact ih1 y_67 y_69 w1_2 y_64 _ _ _ (z_w (c := 0) (d := 940) h_68 rfl) (z_w (c := 0) (d := 940) h_70 rfl) (z_rrL ty_67 ty_69 hI1_0 (Int32.not_le.mp c_1) h_65 h_63 h_31 (z_eqk h_33 rfl) h_27) (by omega) hP hD hS (lv_sub hl [0, 1, 2, 3] rfl)
        · skip
          have h_71 : z_in 0 0 y_28 := z_leL (Int32.le_of_eq c_32) h_29 (z_lit (x := 0) (a := 0) (b := 0) rfl) rfl
          refine lv_aload_n hx hb dX7_readRun_29 rfl (lv_at hl 2 rfl) ?_
          refine va_get (D := D) (ci := 7) (v := .ref ta) (C := RX7) (T := TX7) (N := 10) hx hb hts hiX7 hown hK hP 0 rfl rfl 0 (by decide) (hts _ (List.mem_of_getElem? (i := 1) rfl)) (fun _ h9 => h9) rfl dX7_readRun_30 ?_
          refine lv_iload_n hx hb dX7_readRun_33 rfl (lv_at hl 0 rfl) ?_
          have hc9 := (w_Tape940_get l D ad ta tan tab tabt tabf v1_3 (z_w (c := 0) (d := 940) h_22 rfl))
          refine z_calli (w0 := [(ta, .inr (6, [.ref tab, .int tan])), (tab, .inl (tabt, 940, .inl tabf))]) (wr := [(tk, .inr (7, [.ref ta, .int tkm, .int tkb, .int tkk, .int tka, .int w1_2, .long w1_3, .ref (ad 0), .int tkf, .int tkg]))]) (va_runV (As := [.int v1_3]) (rest := []) ⟨hx, hb, hml, hown, hts⟩ (hc9 _) (cwV 1 hts gX7_readRun_X6_get rfl rfl rfl (by decide +kernel) ⟨Nat.le_of_ble_eq_true rfl, Nat.le_of_ble_eq_true rfl⟩) (z_preV hP hD hK hS hA hE hO [1, 2] [0] rfl (by decide +kernel) rfl 1 6 rfl rfl rfl) rfl rfl hl.1 rfl (lv_room (Nat.le_of_ble_eq_true rfl)) dX7_readRun_34 ⟨Nat.le_of_ble_eq_true rfl, Nat.le_of_ble_eq_true rfl⟩) hP hD hK hS hA [1, 2] [0] rfl rfl (by decide +kernel) (by decide +kernel) (fun y_72 u9 H locs hw hP hD hK hS => ?_)
          obtain ⟨h_73, h_74, h_75, h_76, rfl⟩ := hw
          have hP : va_P D vwCl [(tk, .inr (7, [.ref ta, .int tkm, .int tkb, .int tkk, .int tka, .int w1_2, .long w1_3, .ref (ad 0), .int tkf, .int tkg])), (ta, .inr (6, [.ref tab, .int tan])), (tab, .inl (tabt, 940, .inl tabf))] H := hP
          have hD : va_D A [(tk, .inr (7, [.ref ta, .int tkm, .int tkb, .int tkk, .int tka, .int w1_2, .long w1_3, .ref (ad 0), .int tkf, .int tkg])), (ta, .inr (6, [.ref tab, .int tan])), (tab, .inl (tabt, 940, .inl tabf))] := hD
          have hK : va_K D vwCl [(tabt, .byte)] s := hK
          refine W.cs (cells' := 0) (slots' := 0) rfl rfl ?_
          refine W.eq (g2 := F0 m 37 ls (.int y_72 :: [])) rfl ?_
          have hc9 := (w_Tokens_isDigit l D ad y_72 )
          refine z_calli (w0 := []) (wr := [(tk, .inr (7, [.ref ta, .int tkm, .int tkb, .int tkk, .int tka, .int w1_2, .long w1_3, .ref (ad 0), .int tkf, .int tkg])), (ta, .inr (6, [.ref tab, .int tan])), (tab, .inl (tabt, 940, .inl tabf))]) (va_runS (As := [.int y_72]) (rest := []) ⟨hx, hb, hml, hown, hts⟩ (hc9 _) (va_cwS 1 hts gX7_readRun_X7_isDigit rfl rfl rfl (by decide +kernel) ⟨Nat.le_of_ble_eq_true rfl, Nat.le_of_ble_eq_true rfl⟩) (z_preS hP hD hK hS hA hE hO [] [] rfl (by decide +kernel) rfl) rfl rfl hl.1 rfl (lv_room (Nat.le_of_ble_eq_true rfl)) dX7_readRun_37 ⟨Nat.le_of_ble_eq_true rfl, Nat.le_of_ble_eq_true rfl⟩) hP hD hK hS hA [] [0, 1, 2] rfl rfl (by decide +kernel) (by decide +kernel) (fun y_77 u9 H locs hw hP hD hK hS => ?_)
          obtain ⟨h_78, h_79, h_80, rfl⟩ := hw
          have hP : va_P D vwCl [(tk, .inr (7, [.ref ta, .int tkm, .int tkb, .int tkk, .int tka, .int w1_2, .long w1_3, .ref (ad 0), .int tkf, .int tkg])), (ta, .inr (6, [.ref tab, .int tan])), (tab, .inl (tabt, 940, .inl tabf))] H := hP
          have hD : va_D A [(tk, .inr (7, [.ref ta, .int tkm, .int tkb, .int tkk, .int tka, .int w1_2, .long w1_3, .ref (ad 0), .int tkf, .int tkg])), (ta, .inr (6, [.ref tab, .int tan])), (tab, .inl (tabt, 940, .inl tabf))] := hD
          have hK : va_K D vwCl [(tabt, .byte)] s := hK
          refine W.cs (cells' := 0) (slots' := 0) rfl rfl ?_
          refine W.eq (g2 := F0 m 40 ls (.int y_77 :: [])) rfl ?_
          refine lv_if_eq (tgt := 111) hx hb dX7_readRun_40 (by decide) (fun c_81 => ?_) (fun c_81 => ?_)
          · skip
            have h_82 : z_in 0 0 y_77 := z_leL (Int32.le_of_eq c_81) h_78 (z_lit (x := 0) (a := 0) (b := 0) rfl) rfl
            refine lv_aload_n hx hb dX7_readRun_111 rfl (lv_at hl 2 rfl) ?_
            refine lv_iload_n hx hb dX7_readRun_112 rfl (lv_at hl 3 rfl) ?_
            refine va_put (D := D) (ci := 7) (v := .int i0) (ty := tyX7 4) (C := RX7) (T := TX7) (N := 10) hx hb hts hiX7 tyX7 tyX7_ok nmX7 hown hK hP hD hS 0 rfl rfl 4 (by decide) (hts _ (List.mem_of_getElem? (i := 5) rfl)) (fun _ h9 => h9) rfl (tyX7_ok 4 (by decide)) rfl rfl (Nat.le_of_ble_eq_true rfl) dX7_readRun_113 (fun H locs hP hD hS => ?_)
            have hP : va_P D vwCl [(tk, .inr (7, [.ref ta, .int tkm, .int tkb, .int tkk, .int i0, .int w1_2, .long w1_3, .ref (ad 0), .int tkf, .int tkg])), (ta, .inr (6, [.ref tab, .int tan])), (tab, .inl (tabt, 940, .inl tabf))] H := hP
            have hD : va_D A [(tk, .inr (7, [.ref ta, .int tkm, .int tkb, .int tkk, .int i0, .int w1_2, .long w1_3, .ref (ad 0), .int tkf, .int tkg])), (ta, .inr (6, [.ref tab, .int tan])), (tab, .inl (tabt, 940, .inl tabf))] := hD
            refine lv_aload_n hx hb dX7_readRun_116 rfl (lv_at hl 2 rfl) ?_
            refine lv_iload_n hx hb dX7_readRun_117 rfl (lv_at hl 0 rfl) ?_
            refine va_put (D := D) (ci := 7) (v := .int v1_3) (ty := tyX7 2) (C := RX7) (T := TX7) (N := 10) hx hb hts hiX7 tyX7 tyX7_ok nmX7 hown hK hP hD hS 0 rfl rfl 2 (by decide) (hts _ (List.mem_of_getElem? (i := 6) rfl)) (fun _ h9 => h9) rfl (tyX7_ok 2 (by decide)) rfl rfl (Nat.le_of_ble_eq_true rfl) dX7_readRun_118 (fun H locs hP hD hS => ?_)
            have hP : va_P D vwCl [(tk, .inr (7, [.ref ta, .int tkm, .int v1_3, .int tkk, .int i0, .int w1_2, .long w1_3, .ref (ad 0), .int tkf, .int tkg])), (ta, .inr (6, [.ref tab, .int tan])), (tab, .inl (tabt, 940, .inl tabf))] H := hP
            have hD : va_D A [(tk, .inr (7, [.ref ta, .int tkm, .int v1_3, .int tkk, .int i0, .int w1_2, .long w1_3, .ref (ad 0), .int tkf, .int tkg])), (ta, .inr (6, [.ref tab, .int tan])), (tab, .inl (tabt, 940, .inl tabf))] := hD
            refine lv_aload_n hx hb dX7_readRun_121 rfl (lv_at hl 2 rfl) ?_
            refine lv_iload_n hx hb dX7_readRun_122 rfl (lv_at hl 1 rfl) ?_
            refine lv_iload_n hx hb dX7_readRun_123 rfl (lv_at hl 0 rfl) ?_
            refine lv_iload_n hx hb dX7_readRun_124 rfl (lv_at hl 3 rfl) ?_
            refine lv_isub hx hb dX7_readRun_125 ?_
            refine lv_topi (fun y_83 ey_83 => ?_)
            have h_84 : z_in (-939) 939 y_83 := by rw [ey_83]; exact z_sub h_21 hi0 rfl rfl
            refine lv_iload_n hx hb dX7_readRun_126 rfl (lv_at hl 1 rfl) ?_
            refine lv_isub hx hb dX7_readRun_127 ?_
            refine lv_topi (fun y_85 ey_85 => ?_)
            have h_86 : z_in (-1879) 939 y_85 := by rw [ey_85]; exact z_sub h_84 hv1_2 rfl rfl
            have hc9 := (w_Tokens_kindOfRun l D ad v1_2 y_85 )
            refine z_calli (w0 := []) (wr := [(tk, .inr (7, [.ref ta, .int tkm, .int v1_3, .int tkk, .int i0, .int w1_2, .long w1_3, .ref (ad 0), .int tkf, .int tkg])), (ta, .inr (6, [.ref tab, .int tan])), (tab, .inl (tabt, 940, .inl tabf))]) (va_runS (As := [.int v1_2, .int y_85]) (rest := [.ref tk]) ⟨hx, hb, hml, hown, hts⟩ (hc9 _) (va_cwS 2 hts gX7_readRun_X7_kindOfRun rfl rfl rfl (by decide +kernel) ⟨Nat.le_of_ble_eq_true rfl, Nat.le_of_ble_eq_true rfl⟩) (z_preS hP hD hK hS hA hE hO [] [] rfl (by decide +kernel) rfl) rfl rfl hl.1 rfl (lv_room (Nat.le_of_ble_eq_true rfl)) dX7_readRun_128 ⟨Nat.le_of_ble_eq_true rfl, Nat.le_of_ble_eq_true rfl⟩) hP hD hK hS hA [] [0, 1, 2] rfl rfl (by decide +kernel) (by decide +kernel) (fun y_87 u9 H locs hw hP hD hK hS => ?_)
            refine z_an6 hw (fun h_88 h_89 h_90 h_91 h_92 h_93 hw => ?_)
            subst hw
            have hP : va_P D vwCl [(tk, .inr (7, [.ref ta, .int tkm, .int v1_3, .int tkk, .int i0, .int w1_2, .long w1_3, .ref (ad 0), .int tkf, .int tkg])), (ta, .inr (6, [.ref tab, .int tan])), (tab, .inl (tabt, 940, .inl tabf))] H := hP
            have hD : va_D A [(tk, .inr (7, [.ref ta, .int tkm, .int v1_3, .int tkk, .int i0, .int w1_2, .long w1_3, .ref (ad 0), .int tkf, .int tkg])), (ta, .inr (6, [.ref tab, .int tan])), (tab, .inl (tabt, 940, .inl tabf))] := hD
            have hK : va_K D vwCl [(tabt, .byte)] s := hK
            refine W.cs (cells' := 0) (slots' := 0) rfl rfl ?_
            refine W.eq (g2 := F0 m 131 ls (.int y_87 :: [.ref tk])) rfl ?_
            refine va_put (D := D) (ci := 7) (v := .int y_87) (ty := tyX7 3) (C := RX7) (T := TX7) (N := 10) hx hb hts hiX7 tyX7 tyX7_ok nmX7 hown hK hP hD hS 0 rfl rfl 3 (by decide) (hts _ (List.mem_of_getElem? (i := 7) rfl)) (fun _ h9 => h9) rfl (tyX7_ok 3 (by decide)) rfl rfl (Nat.le_of_ble_eq_true rfl) dX7_readRun_131 (fun H locs hP hD hS => ?_)
            have hP : va_P D vwCl [(tk, .inr (7, [.ref ta, .int tkm, .int v1_3, .int y_87, .int i0, .int w1_2, .long w1_3, .ref (ad 0), .int tkf, .int tkg])), (ta, .inr (6, [.ref tab, .int tan])), (tab, .inl (tabt, 940, .inl tabf))] H := hP
            have hD : va_D A [(tk, .inr (7, [.ref ta, .int tkm, .int v1_3, .int y_87, .int i0, .int w1_2, .long w1_3, .ref (ad 0), .int tkf, .int tkg])), (ta, .inr (6, [.ref tab, .int tan])), (tab, .inl (tabt, 940, .inl tabf))] := hD
            refine lv_aload_n hx hb dX7_readRun_134 rfl (lv_at hl 2 rfl) ?_
            refine va_get (D := D) (ci := 7) (v := .int y_87) (C := RX7) (T := TX7) (N := 10) hx hb hts hiX7 hown hK hP 0 rfl rfl 3 (by decide) (hts _ (List.mem_of_getElem? (i := 7) rfl)) (fun _ h9 => h9) rfl dX7_readRun_135 ?_
            refine lv_iconst (v := 4) hx hb dX7_readRun_138 (by decide) ?_
            refine lv_icmp_ne (tgt := 153) hx hb dX7_readRun_139 (by decide) (fun c_94 => ?_) (fun c_94 => ?_)
            · skip
              have h_95 : z_in 1 3 y_87 := z_neHi c_94 h_88 (z_lit (x := 4) (a := 4) (b := 4) rfl) rfl
              exact hret ([(tk, .inr (7, [.ref ta, .int tkm, .int v1_3, .int y_87, .int i0, .int w1_2, .long w1_3, .ref (ad 0), .int tkf, .int tkg])), (ta, .inr (6, [.ref tab, .int tan])), (tab, .inl (tabt, 940, .inl tabf))], []) _ _ _ _ dX7_readRun_153 ⟨v1_3, y_87, i0, w1_2, w1_3, 0, (z_w (c := 0) (d := 940) h_21 rfl), (z_w (c := 0) (d := 4) h_95 rfl), (by decide), (z_tk0 y_87), (z_ro0 hI1_0 hpa hl9 (z_pxN (z_w (c := 0) (d := 940) h_21 rfl) (Int32.not_le.mp c_1) h_31 (z_eqk h_71 rfl) h_27 h_80 (z_eqk h_82 rfl) h_76) (z_w (c := 0) (d := 940) h_21 rfl) ey_85 ey_83 h_93 c_94), (show z_sz i0 i0 from rfl), rfl⟩ hP (hK.sub [] rfl) hD hS
            · skip
              have h_96 : z_in 4 4 y_87 := z_leR (Int32.le_of_eq (Eq.symm c_94)) (z_lit (x := 4) (a := 4) (b := 4) rfl) h_88 rfl
              have h_97 : z_in 0 7 v1_2 := z_both hv1_2 (h_91 (z_eqk h_96 rfl)) rfl
              have h_98 : z_in 0 0 y_85 := z_both h_86 (h_92 (z_eqk h_96 rfl)) rfl
              refine lv_aload_n hx hb dX7_readRun_142 rfl (lv_at hl 2 rfl) ?_
              refine lv_aload_n hx hb dX7_readRun_143 rfl (lv_at hl 2 rfl) ?_
              refine va_get (D := D) (ci := 7) (v := .long w1_3) (C := RX7) (T := TX7) (N := 10) hx hb hts hiX7 hown hK hP 0 rfl rfl 6 (by decide) (hts _ (List.mem_of_getElem? (i := 3) rfl)) (fun _ h9 => h9) rfl dX7_readRun_144 ?_
              have hc9 := (w_Word_withCode l D ad w1_3 )
              refine z_callr (w0 := []) (wr := [(tk, .inr (7, [.ref ta, .int tkm, .int v1_3, .int y_87, .int i0, .int w1_2, .long w1_3, .ref (ad 0), .int tkf, .int tkg])), (ta, .inr (6, [.ref tab, .int tan])), (tab, .inl (tabt, 940, .inl tabf))]) (va_runS (As := [.long w1_3]) (rest := [.ref tk]) ⟨hx, hb, hml, hown, hts⟩ (hc9 _) (va_cwS 1 hts gX7_readRun_X9_withCode rfl rfl rfl (by decide +kernel) ⟨Nat.le_of_ble_eq_true rfl, Nat.le_of_ble_eq_true rfl⟩) (z_preS hP hD hK hS hA hE hO [] [] rfl (by decide +kernel) rfl) rfl rfl hl.1 rfl (lv_room (Nat.le_of_ble_eq_true rfl)) dX7_readRun_147 ⟨Nat.le_of_ble_eq_true rfl, Nat.le_of_ble_eq_true rfl⟩) hP hD hK hS hA [] [0, 1, 2] rfl rfl (by decide +kernel) (by decide +kernel) (fun u9 H locs hw hP hD hK hS => ?_)
              obtain ⟨w_99, h_100, h_101, rfl⟩ := hw
              have hP : va_P D vwCl [(tk, .inr (7, [.ref ta, .int tkm, .int v1_3, .int y_87, .int i0, .int w1_2, .long w1_3, .ref (ad 0), .int tkf, .int tkg])), (ta, .inr (6, [.ref tab, .int tan])), (tab, .inl (tabt, 940, .inl tabf))] H := hP
              have hD : va_D A [(tk, .inr (7, [.ref ta, .int tkm, .int v1_3, .int y_87, .int i0, .int w1_2, .long w1_3, .ref (ad 0), .int tkf, .int tkg])), (ta, .inr (6, [.ref tab, .int tan])), (tab, .inl (tabt, 940, .inl tabf))] := hD
              have hK : va_K D vwCl [(tabt, .byte)] s := hK
              refine W.cs (cells' := 0) (slots' := 0) rfl rfl ?_
              refine W.eq (g2 := F0 m 150 ls (.ref (ad w_99) :: [.ref tk])) rfl ?_
              refine va_put (D := D) (ci := 7) (v := .ref (ad w_99)) (ty := tyX7 7) (C := RX7) (T := TX7) (N := 10) hx hb hts hiX7 tyX7 tyX7_ok nmX7 hown hK hP hD hS 0 rfl rfl 7 (by decide) (hts _ (List.mem_of_getElem? (i := 8) rfl)) (fun _ h9 => h9) rfl (tyX7_ok 7 (by decide)) rfl rfl (Nat.le_of_ble_eq_true rfl) dX7_readRun_150 (fun H locs hP hD hS => ?_)
              have hP : va_P D vwCl [(tk, .inr (7, [.ref ta, .int tkm, .int v1_3, .int y_87, .int i0, .int w1_2, .long w1_3, .ref (ad w_99), .int tkf, .int tkg])), (ta, .inr (6, [.ref tab, .int tan])), (tab, .inl (tabt, 940, .inl tabf))] H := hP
              have hD : va_D A [(tk, .inr (7, [.ref ta, .int tkm, .int v1_3, .int y_87, .int i0, .int w1_2, .long w1_3, .ref (ad w_99), .int tkf, .int tkg])), (ta, .inr (6, [.ref tab, .int tan])), (tab, .inl (tabt, 940, .inl tabf))] := hD
              exact hret ([(tk, .inr (7, [.ref ta, .int tkm, .int v1_3, .int y_87, .int i0, .int w1_2, .long w1_3, .ref (ad w_99), .int tkf, .int tkg])), (ta, .inr (6, [.ref tab, .int tan])), (tab, .inl (tabt, 940, .inl tabf))], []) _ _ _ _ dX7_readRun_153 ⟨v1_3, y_87, i0, w1_2, w1_3, w_99, (z_w (c := 0) (d := 940) h_21 rfl), (z_w (c := 0) (d := 4) h_96 rfl), h_100, (z_tk4 w_99 h_96), (z_ro4 hI1_0 hpa hl9 (z_pxN (z_w (c := 0) (d := 940) h_21 rfl) (Int32.not_le.mp c_1) h_31 (z_eqk h_71 rfl) h_27 h_80 (z_eqk h_82 rfl) h_76) (z_w (c := 0) (d := 940) h_21 rfl) ey_85 ey_83 h_93 (z_eqk h_96 rfl) h_101), (show z_sz i0 i0 from rfl), rfl⟩ hP (hK.sub [] rfl) hD hS
          · skip
            have h_102 : z_in 1 1 y_77 := z_neLo c_81 h_78 (z_lit (x := 0) (a := 0) (b := 0) rfl) rfl
            have h_103 : z_in 48 57 y_72 := z_both h_73 (h_79 (z_eqk h_102 rfl)) rfl
            refine lv_aload_n hx hb dX7_readRun_43 rfl (lv_at hl 2 rfl) ?_
            refine va_get (D := D) (ci := 7) (v := .ref ta) (C := RX7) (T := TX7) (N := 10) hx hb hts hiX7 hown hK hP 0 rfl rfl 0 (by decide) (hts _ (List.mem_of_getElem? (i := 1) rfl)) (fun _ h9 => h9) rfl dX7_readRun_44 ?_
            refine lv_iload_n hx hb dX7_readRun_47 rfl (lv_at hl 0 rfl) ?_
            have hc9 := (w_Tape940_get l D ad ta tan tab tabt tabf v1_3 (z_w (c := 0) (d := 940) h_22 rfl))
            refine z_calli (w0 := [(ta, .inr (6, [.ref tab, .int tan])), (tab, .inl (tabt, 940, .inl tabf))]) (wr := [(tk, .inr (7, [.ref ta, .int tkm, .int tkb, .int tkk, .int tka, .int w1_2, .long w1_3, .ref (ad 0), .int tkf, .int tkg]))]) (va_runV (As := [.int v1_3]) (rest := []) ⟨hx, hb, hml, hown, hts⟩ (hc9 _) (cwV 1 hts gX7_readRun_X6_get rfl rfl rfl (by decide +kernel) ⟨Nat.le_of_ble_eq_true rfl, Nat.le_of_ble_eq_true rfl⟩) (z_preV hP hD hK hS hA hE hO [1, 2] [0] rfl (by decide +kernel) rfl 1 6 rfl rfl rfl) rfl rfl hl.1 rfl (lv_room (Nat.le_of_ble_eq_true rfl)) dX7_readRun_48 ⟨Nat.le_of_ble_eq_true rfl, Nat.le_of_ble_eq_true rfl⟩) hP hD hK hS hA [1, 2] [0] rfl rfl (by decide +kernel) (by decide +kernel) (fun y_104 u9 H locs hw hP hD hK hS => ?_)
            obtain ⟨h_105, h_106, h_107, h_108, rfl⟩ := hw
            have hP : va_P D vwCl [(tk, .inr (7, [.ref ta, .int tkm, .int tkb, .int tkk, .int tka, .int w1_2, .long w1_3, .ref (ad 0), .int tkf, .int tkg])), (ta, .inr (6, [.ref tab, .int tan])), (tab, .inl (tabt, 940, .inl tabf))] H := hP
            have hD : va_D A [(tk, .inr (7, [.ref ta, .int tkm, .int tkb, .int tkk, .int tka, .int w1_2, .long w1_3, .ref (ad 0), .int tkf, .int tkg])), (ta, .inr (6, [.ref tab, .int tan])), (tab, .inl (tabt, 940, .inl tabf))] := hD
            have hK : va_K D vwCl [(tabt, .byte)] s := hK
            refine W.cs (cells' := 0) (slots' := 0) rfl rfl ?_
            refine W.eq (g2 := F0 m 51 ls (.int y_104 :: [])) rfl ?_
            have hc9 := (w_Tokens_isLetter l D ad y_104 )
            refine z_calli (w0 := []) (wr := [(tk, .inr (7, [.ref ta, .int tkm, .int tkb, .int tkk, .int tka, .int w1_2, .long w1_3, .ref (ad 0), .int tkf, .int tkg])), (ta, .inr (6, [.ref tab, .int tan])), (tab, .inl (tabt, 940, .inl tabf))]) (va_runS (As := [.int y_104]) (rest := []) ⟨hx, hb, hml, hown, hts⟩ (hc9 _) (va_cwS 1 hts gX7_readRun_X7_isLetter rfl rfl rfl (by decide +kernel) ⟨Nat.le_of_ble_eq_true rfl, Nat.le_of_ble_eq_true rfl⟩) (z_preS hP hD hK hS hA hE hO [] [] rfl (by decide +kernel) rfl) rfl rfl hl.1 rfl (lv_room (Nat.le_of_ble_eq_true rfl)) dX7_readRun_51 ⟨Nat.le_of_ble_eq_true rfl, Nat.le_of_ble_eq_true rfl⟩) hP hD hK hS hA [] [0, 1, 2] rfl rfl (by decide +kernel) (by decide +kernel) (fun y_109 u9 H locs hw hP hD hK hS => ?_)
            obtain ⟨h_110, h_111, h_112, rfl⟩ := hw
            have hP : va_P D vwCl [(tk, .inr (7, [.ref ta, .int tkm, .int tkb, .int tkk, .int tka, .int w1_2, .long w1_3, .ref (ad 0), .int tkf, .int tkg])), (ta, .inr (6, [.ref tab, .int tan])), (tab, .inl (tabt, 940, .inl tabf))] H := hP
            have hD : va_D A [(tk, .inr (7, [.ref ta, .int tkm, .int tkb, .int tkk, .int tka, .int w1_2, .long w1_3, .ref (ad 0), .int tkf, .int tkg])), (ta, .inr (6, [.ref tab, .int tan])), (tab, .inl (tabt, 940, .inl tabf))] := hD
            have hK : va_K D vwCl [(tabt, .byte)] s := hK
            refine W.cs (cells' := 0) (slots' := 0) rfl rfl ?_
            refine W.eq (g2 := F0 m 54 ls (.int y_109 :: [])) rfl ?_
            refine lv_if_eq (tgt := 82) hx hb dX7_readRun_54 (by decide) (fun c_113 => ?_) (fun c_113 => ?_)
            · skip
              have h_114 : z_in 0 0 y_109 := z_leL (Int32.le_of_eq c_113) h_110 (z_lit (x := 0) (a := 0) (b := 0) rfl) rfl
              refine lv_aload_n hx hb dX7_readRun_82 rfl (lv_at hl 2 rfl) ?_
              refine lv_aload_n hx hb dX7_readRun_83 rfl (lv_at hl 2 rfl) ?_
              refine va_get (D := D) (ci := 7) (v := .int w1_2) (C := RX7) (T := TX7) (N := 10) hx hb hts hiX7 hown hK hP 0 rfl rfl 5 (by decide) (hts _ (List.mem_of_getElem? (i := 4) rfl)) (fun _ h9 => h9) rfl dX7_readRun_84 ?_
              refine lv_bipush (v := 10) hx hb dX7_readRun_87 (by decide) ?_
              refine lv_imul hx hb dX7_readRun_89 ?_
              refine lv_topi (fun y_115 ey_115 => ?_)
              refine lv_aload_n hx hb dX7_readRun_90 rfl (lv_at hl 2 rfl) ?_
              refine va_get (D := D) (ci := 7) (v := .ref ta) (C := RX7) (T := TX7) (N := 10) hx hb hts hiX7 hown hK hP 0 rfl rfl 0 (by decide) (hts _ (List.mem_of_getElem? (i := 1) rfl)) (fun _ h9 => h9) rfl dX7_readRun_91 ?_
              refine lv_iload_n hx hb dX7_readRun_94 rfl (lv_at hl 0 rfl) ?_
              have hc9 := (w_Tape940_get l D ad ta tan tab tabt tabf v1_3 (z_w (c := 0) (d := 940) h_22 rfl))
              refine z_calli (w0 := [(ta, .inr (6, [.ref tab, .int tan])), (tab, .inl (tabt, 940, .inl tabf))]) (wr := [(tk, .inr (7, [.ref ta, .int tkm, .int tkb, .int tkk, .int tka, .int w1_2, .long w1_3, .ref (ad 0), .int tkf, .int tkg]))]) (va_runV (As := [.int v1_3]) (rest := [.int y_115, .ref tk]) ⟨hx, hb, hml, hown, hts⟩ (hc9 _) (cwV 1 hts gX7_readRun_X6_get rfl rfl rfl (by decide +kernel) ⟨Nat.le_of_ble_eq_true rfl, Nat.le_of_ble_eq_true rfl⟩) (z_preV hP hD hK hS hA hE hO [1, 2] [0] rfl (by decide +kernel) rfl 1 6 rfl rfl rfl) rfl rfl hl.1 rfl (lv_room (Nat.le_of_ble_eq_true rfl)) dX7_readRun_95 ⟨Nat.le_of_ble_eq_true rfl, Nat.le_of_ble_eq_true rfl⟩) hP hD hK hS hA [1, 2] [0] rfl rfl (by decide +kernel) (by decide +kernel) (fun y_116 u9 H locs hw hP hD hK hS => ?_)
              obtain ⟨h_117, h_118, h_119, h_120, rfl⟩ := hw
              have hP : va_P D vwCl [(tk, .inr (7, [.ref ta, .int tkm, .int tkb, .int tkk, .int tka, .int w1_2, .long w1_3, .ref (ad 0), .int tkf, .int tkg])), (ta, .inr (6, [.ref tab, .int tan])), (tab, .inl (tabt, 940, .inl tabf))] H := hP
              have hD : va_D A [(tk, .inr (7, [.ref ta, .int tkm, .int tkb, .int tkk, .int tka, .int w1_2, .long w1_3, .ref (ad 0), .int tkf, .int tkg])), (ta, .inr (6, [.ref tab, .int tan])), (tab, .inl (tabt, 940, .inl tabf))] := hD
              have hK : va_K D vwCl [(tabt, .byte)] s := hK
              refine W.cs (cells' := 0) (slots' := 0) rfl rfl ?_
              refine W.eq (g2 := F0 m 98 ls (.int y_116 :: [.int y_115, .ref tk])) rfl ?_
              refine lv_bipush (v := 48) hx hb dX7_readRun_98 (by decide) ?_
              refine lv_isub hx hb dX7_readRun_100 ?_
              refine lv_topi (fun y_121 ey_121 => ?_)
              have h_122 : z_in (-49) 207 y_121 := by rw [ey_121]; exact z_sub h_117 (z_lit (x := 48) (a := 48) (b := 48) rfl) rfl rfl
              have ty_121 : y_121.toInt = y_116.toInt + (-48) := by rw [ey_121]; exact (z_subT h_117 (z_lit (x := 48) (a := 48) (b := 48) rfl) rfl).trans rfl
              refine lv_iadd hx hb dX7_readRun_101 ?_
              refine lv_topi (fun y_123 ey_123 => ?_)
              refine va_put (D := D) (ci := 7) (v := .int y_123) (ty := tyX7 5) (C := RX7) (T := TX7) (N := 10) hx hb hts hiX7 tyX7 tyX7_ok nmX7 hown hK hP hD hS 0 rfl rfl 5 (by decide) (hts _ (List.mem_of_getElem? (i := 4) rfl)) (fun _ h9 => h9) rfl (tyX7_ok 5 (by decide)) rfl rfl (Nat.le_of_ble_eq_true rfl) dX7_readRun_102 (fun H locs hP hD hS => ?_)
              have hP : va_P D vwCl [(tk, .inr (7, [.ref ta, .int tkm, .int tkb, .int tkk, .int tka, .int y_123, .long w1_3, .ref (ad 0), .int tkf, .int tkg])), (ta, .inr (6, [.ref tab, .int tan])), (tab, .inl (tabt, 940, .inl tabf))] H := hP
              have hD : va_D A [(tk, .inr (7, [.ref ta, .int tkm, .int tkb, .int tkk, .int tka, .int y_123, .long w1_3, .ref (ad 0), .int tkf, .int tkg])), (ta, .inr (6, [.ref tab, .int tan])), (tab, .inl (tabt, 940, .inl tabf))] := hD
              obtain ⟨y_124, ey_124⟩ : ∃ y : Int32, y = v1_3 + 1 := ⟨_, rfl⟩
              have h_125 : z_in 1 940 y_124 := by rw [ey_124]; exact z_add h_21 (z_lit (x := 1) (a := 1) (b := 1) rfl) rfl rfl
              have ty_124 : y_124.toInt = v1_3.toInt + 1 := by rw [ey_124]; exact z_addT h_21 (z_lit (x := 1) (a := 1) (b := 1) rfl) rfl
              refine lv_iinc (v := y_124) (lv' := [(3, .int y_124), (2, .int v1_2), (0, .ref tk), (1, .int i0)]) hx hb dX7_readRun_105 hl (k := 0) rfl (by rw [ey_124]; rfl) (by decide) rfl (fun ls hl => ?_)
              refine lv_goto (tgt := 4) hx hb dX7_readRun_108 (by decide) ?_
              exact ih1 v1_2 y_124 y_123 w1_3 _ _ _ hv1_2 (z_w (c := 0) (d := 940) h_125 rfl) (z_rrD ty_124 hI1_0 (Int32.not_le.mp c_1) ey_123 ey_115 ey_121 h_120 h_80 (z_eqk h_102 rfl) h_76) (by omega) hP hD hS (lv_sub hl [0, 1, 2, 3] rfl)
            · skip
              have h_126 : z_in 1 1 y_109 := z_neLo c_113 h_110 (z_lit (x := 0) (a := 0) (b := 0) rfl) rfl
              have h_127 : z_in 97 122 y_104 := z_both h_105 (h_111 (z_eqk h_126 rfl)) rfl
              refine lv_aload_n hx hb dX7_readRun_57 rfl (lv_at hl 2 rfl) ?_
              refine lv_aload_n hx hb dX7_readRun_58 rfl (lv_at hl 2 rfl) ?_
              refine va_get (D := D) (ci := 7) (v := .long w1_3) (C := RX7) (T := TX7) (N := 10) hx hb hts hiX7 hown hK hP 0 rfl rfl 6 (by decide) (hts _ (List.mem_of_getElem? (i := 3) rfl)) (fun _ h9 => h9) rfl dX7_readRun_59 ?_
              refine lv_aload_n hx hb dX7_readRun_62 rfl (lv_at hl 2 rfl) ?_
              refine va_get (D := D) (ci := 7) (v := .ref ta) (C := RX7) (T := TX7) (N := 10) hx hb hts hiX7 hown hK hP 0 rfl rfl 0 (by decide) (hts _ (List.mem_of_getElem? (i := 1) rfl)) (fun _ h9 => h9) rfl dX7_readRun_63 ?_
              refine lv_iload_n hx hb dX7_readRun_66 rfl (lv_at hl 0 rfl) ?_
              have hc9 := (w_Tape940_get l D ad ta tan tab tabt tabf v1_3 (z_w (c := 0) (d := 940) h_22 rfl))
              refine z_calli (w0 := [(ta, .inr (6, [.ref tab, .int tan])), (tab, .inl (tabt, 940, .inl tabf))]) (wr := [(tk, .inr (7, [.ref ta, .int tkm, .int tkb, .int tkk, .int tka, .int w1_2, .long w1_3, .ref (ad 0), .int tkf, .int tkg]))]) (va_runV (As := [.int v1_3]) (rest := [.long w1_3, .ref tk]) ⟨hx, hb, hml, hown, hts⟩ (hc9 _) (cwV 1 hts gX7_readRun_X6_get rfl rfl rfl (by decide +kernel) ⟨Nat.le_of_ble_eq_true rfl, Nat.le_of_ble_eq_true rfl⟩) (z_preV hP hD hK hS hA hE hO [1, 2] [0] rfl (by decide +kernel) rfl 1 6 rfl rfl rfl) rfl rfl hl.1 rfl (lv_room (Nat.le_of_ble_eq_true rfl)) dX7_readRun_67 ⟨Nat.le_of_ble_eq_true rfl, Nat.le_of_ble_eq_true rfl⟩) hP hD hK hS hA [1, 2] [0] rfl rfl (by decide +kernel) (by decide +kernel) (fun y_128 u9 H locs hw hP hD hK hS => ?_)
              obtain ⟨h_129, h_130, h_131, h_132, rfl⟩ := hw
              have hP : va_P D vwCl [(tk, .inr (7, [.ref ta, .int tkm, .int tkb, .int tkk, .int tka, .int w1_2, .long w1_3, .ref (ad 0), .int tkf, .int tkg])), (ta, .inr (6, [.ref tab, .int tan])), (tab, .inl (tabt, 940, .inl tabf))] H := hP
              have hD : va_D A [(tk, .inr (7, [.ref ta, .int tkm, .int tkb, .int tkk, .int tka, .int w1_2, .long w1_3, .ref (ad 0), .int tkf, .int tkg])), (ta, .inr (6, [.ref tab, .int tan])), (tab, .inl (tabt, 940, .inl tabf))] := hD
              have hK : va_K D vwCl [(tabt, .byte)] s := hK
              refine W.cs (cells' := 0) (slots' := 0) rfl rfl ?_
              refine W.eq (g2 := F0 m 70 ls (.int y_128 :: [.long w1_3, .ref tk])) rfl ?_
              have hc9 := (w_Word_withLetter l D ad w1_3 y_128 )
              refine z_calll (w0 := []) (wr := [(tk, .inr (7, [.ref ta, .int tkm, .int tkb, .int tkk, .int tka, .int w1_2, .long w1_3, .ref (ad 0), .int tkf, .int tkg])), (ta, .inr (6, [.ref tab, .int tan])), (tab, .inl (tabt, 940, .inl tabf))]) (va_runS (As := [.long w1_3, .int y_128]) (rest := [.ref tk]) ⟨hx, hb, hml, hown, hts⟩ (hc9 _) (va_cwS 2 hts gX7_readRun_X9_withLetter rfl rfl rfl (by decide +kernel) ⟨Nat.le_of_ble_eq_true rfl, Nat.le_of_ble_eq_true rfl⟩) (z_preS hP hD hK hS hA hE hO [] [] rfl (by decide +kernel) rfl) rfl rfl hl.1 rfl (lv_room (Nat.le_of_ble_eq_true rfl)) dX7_readRun_70 ⟨Nat.le_of_ble_eq_true rfl, Nat.le_of_ble_eq_true rfl⟩) hP hD hK hS hA [] [0, 1, 2] rfl rfl (by decide +kernel) (by decide +kernel) (fun y_133 u9 H locs hw hP hD hK hS => ?_)
              obtain ⟨h_134, rfl⟩ := hw
              have hP : va_P D vwCl [(tk, .inr (7, [.ref ta, .int tkm, .int tkb, .int tkk, .int tka, .int w1_2, .long w1_3, .ref (ad 0), .int tkf, .int tkg])), (ta, .inr (6, [.ref tab, .int tan])), (tab, .inl (tabt, 940, .inl tabf))] H := hP
              have hD : va_D A [(tk, .inr (7, [.ref ta, .int tkm, .int tkb, .int tkk, .int tka, .int w1_2, .long w1_3, .ref (ad 0), .int tkf, .int tkg])), (ta, .inr (6, [.ref tab, .int tan])), (tab, .inl (tabt, 940, .inl tabf))] := hD
              have hK : va_K D vwCl [(tabt, .byte)] s := hK
              refine W.cs (cells' := 0) (slots' := 0) rfl rfl ?_
              refine W.eq (g2 := F0 m 73 ls (.long y_133 :: [.ref tk])) rfl ?_
              refine va_put (D := D) (ci := 7) (v := .long y_133) (ty := tyX7 6) (C := RX7) (T := TX7) (N := 10) hx hb hts hiX7 tyX7 tyX7_ok nmX7 hown hK hP hD hS 0 rfl rfl 6 (by decide) (hts _ (List.mem_of_getElem? (i := 3) rfl)) (fun _ h9 => h9) rfl (tyX7_ok 6 (by decide)) rfl rfl (Nat.le_of_ble_eq_true rfl) dX7_readRun_73 (fun H locs hP hD hS => ?_)
              have hP : va_P D vwCl [(tk, .inr (7, [.ref ta, .int tkm, .int tkb, .int tkk, .int tka, .int w1_2, .long y_133, .ref (ad 0), .int tkf, .int tkg])), (ta, .inr (6, [.ref tab, .int tan])), (tab, .inl (tabt, 940, .inl tabf))] H := hP
              have hD : va_D A [(tk, .inr (7, [.ref ta, .int tkm, .int tkb, .int tkk, .int tka, .int w1_2, .long y_133, .ref (ad 0), .int tkf, .int tkg])), (ta, .inr (6, [.ref tab, .int tan])), (tab, .inl (tabt, 940, .inl tabf))] := hD
              have h_135 : z_in 0 939 v1_2 := z_rrB hI1_0 h_21
              obtain ⟨y_136, ey_136⟩ : ∃ y : Int32, y = v1_2 + 1 := ⟨_, rfl⟩
              have h_137 : z_in 1 940 y_136 := by rw [ey_136]; exact z_add h_135 (z_lit (x := 1) (a := 1) (b := 1) rfl) rfl rfl
              have ty_136 : y_136.toInt = v1_2.toInt + 1 := by rw [ey_136]; exact z_addT h_135 (z_lit (x := 1) (a := 1) (b := 1) rfl) rfl
              refine lv_iinc (v := y_136) (lv' := [(2, .int y_136), (3, .int v1_3), (0, .ref tk), (1, .int i0)]) hx hb dX7_readRun_76 hl (k := 1) rfl (by rw [ey_136]; rfl) (by decide) rfl (fun ls hl => ?_)
              refine lv_goto (tgt := 105) hx hb dX7_readRun_79 (by decide) ?_
              obtain ⟨y_138, ey_138⟩ : ∃ y : Int32, y = v1_3 + 1 := ⟨_, rfl⟩
              have h_139 : z_in 1 940 y_138 := by rw [ey_138]; exact z_add h_21 (z_lit (x := 1) (a := 1) (b := 1) rfl) rfl rfl
              have ty_138 : y_138.toInt = v1_3.toInt + 1 := by rw [ey_138]; exact z_addT h_21 (z_lit (x := 1) (a := 1) (b := 1) rfl) rfl
              refine lv_iinc (v := y_138) (lv' := [(3, .int y_138), (2, .int y_136), (0, .ref tk), (1, .int i0)]) hx hb dX7_readRun_105 hl (k := 1) rfl (by rw [ey_138]; rfl) (by decide) rfl (fun ls hl => ?_)
              refine lv_goto (tgt := 4) hx hb dX7_readRun_108 (by decide) ?_
              exact ih1 y_136 y_138 w1_2 y_133 _ _ _ (z_w (c := 0) (d := 940) h_137 rfl) (z_w (c := 0) (d := 940) h_139 rfl) (z_rrL ty_136 ty_138 hI1_0 (Int32.not_le.mp c_1) h_134 h_132 h_112 (z_eqk h_126 rfl) h_108) (by omega) hP hD hS (lv_sub hl [0, 1, 2, 3] rfl)
  exact LP1 941 0 i0 tkv tkc _ _ _ (z_w (c := 0) (d := 940) (z_lit (x := 0) (a := 0) (b := 0) rfl) rfl) (z_w (c := 0) (d := 940) hi0 rfl) (z_rr0 hi0 hz0 hy0) (by have q1 := (z_w (c := 0) (d := 940) hi0 rfl).1; have q2 := (z_w (c := 0) (d := 940) hi0 rfl).2; omega) hP hD hS (lv_sub hl [0, 1, 2, 3] rfl)

set_option maxHeartbeats 8000000 in
set_option maxRecDepth 100000 in
theorem w_Tokens_readSign (l : Launch) (D : va_G) (ad : Nat → Nat) (tk : Nat) (tkm : Int32) (tkb : Int32) (tkk : Int32) (tka : Int32) (tkv : Int32) (tkc : Int64) (tkf : Int32) (tkg : Int32) (ta : Nat) (tan : Int32) (tab : Nat) (tabt : ClassId) (tabf : Nat → Int32) (i0 : Int32) (htkm : z_in 0 940 tkm) (htkb : z_in 0 940 tkb) (htkk : z_in 0 4 tkk) (htan : z_in 0 940 tan) (hi0 : z_in 0 939 i0) : z_Mv l yX7_readSign wsX7_readSign { frames := 1, cells := 0, slots := 0, locals := 21 } D ad [.ref tk, .int i0] [(tk, .inr (7, [.ref ta, .int tkm, .int tkb, .int tkk, .int tka, .int tkv, .long tkc, .ref (ad 0), .int tkf, .int tkg])), (ta, .inr (6, [.ref tab, .int tan])), (tab, .inl (tabt, 940, .inl tabf))] [(tabt, .byte)] 0 0 (fun u9 => ∃ (x0_2 : Int32) (x0_3 : Int32) (x0_4 : Int32) (x0_5 : Int32), z_in 0 940 x0_2 ∧ z_in 0 4 x0_3 ∧ z_rsg tabf tan i0 x0_3 x0_5 x0_2 ∧ z_sz x0_4 i0 ∧ u9 = ([(tk, .inr (7, [.ref ta, .int tkm, .int x0_2, .int x0_3, .int x0_4, .int x0_5, .long tkc, .ref (ad 0), .int tkf, .int tkg])), (ta, .inr (6, [.ref tab, .int tan])), (tab, .inl (tabt, 940, .inl tabf))], [])) := by
  refine z_ofV (cc := cX7_readSign) (maxL := 4) (by decide) rfl (Nat.le_of_ble_eq_true rfl) ?_
  intro p e s m below meth c Q A ls hx hb hml hown hts hin hK hP hD hA hE hO hS hl hret
  have hown : s.vm.findClass RX7 = some m.cls := hown
  have hiX7 : ∀ w ∈ wsX70, w ∈ wsX7_readSign := fun _ h9 => List.mem_cons_of_mem _ (List.mem_append_left _ (List.mem_append_right _ h9))
  have hiX6 : ∀ w ∈ wsX60, w ∈ wsX7_readSign := fun _ h9 => List.mem_cons_of_mem _ (List.mem_append_right _ h9)
  have hl : lv_has ls 4 [(0, .ref tk), (1, .int i0)] := hl
  refine lv_aload_n hx hb dX7_readSign_0 rfl (lv_at hl 0 rfl) ?_
  refine va_get (D := D) (ci := 7) (v := .ref ta) (C := RX7) (T := TX7) (N := 10) hx hb hts hiX7 hown hK hP 0 rfl rfl 0 (by decide) (hts _ (List.mem_of_getElem? (i := 1) rfl)) (fun _ h9 => h9) rfl dX7_readSign_1 ?_
  refine lv_iload_n hx hb dX7_readSign_4 rfl (lv_at hl 1 rfl) ?_
  have hc9 := (w_Tape940_get l D ad ta tan tab tabt tabf i0 htan)
  refine z_calli (w0 := [(ta, .inr (6, [.ref tab, .int tan])), (tab, .inl (tabt, 940, .inl tabf))]) (wr := [(tk, .inr (7, [.ref ta, .int tkm, .int tkb, .int tkk, .int tka, .int tkv, .long tkc, .ref (ad 0), .int tkf, .int tkg]))]) (va_runV (As := [.int i0]) (rest := []) ⟨hx, hb, hml, hown, hts⟩ (hc9 _) (cwV 1 hts gX7_readSign_X6_get rfl rfl rfl (by decide +kernel) ⟨Nat.le_of_ble_eq_true rfl, Nat.le_of_ble_eq_true rfl⟩) (z_preV hP hD hK hS hA hE hO [1, 2] [0] rfl (by decide +kernel) rfl 1 6 rfl rfl rfl) rfl rfl hl.1 rfl (lv_room (Nat.le_of_ble_eq_true rfl)) dX7_readSign_5 ⟨Nat.le_of_ble_eq_true rfl, Nat.le_of_ble_eq_true rfl⟩) hP hD hK hS hA [1, 2] [0] rfl rfl (by decide +kernel) (by decide +kernel) (fun y_1 u9 H locs hw hP hD hK hS => ?_)
  obtain ⟨h_2, h_3, h_4, h_5, rfl⟩ := hw
  have hP : va_P D vwCl [(tk, .inr (7, [.ref ta, .int tkm, .int tkb, .int tkk, .int tka, .int tkv, .long tkc, .ref (ad 0), .int tkf, .int tkg])), (ta, .inr (6, [.ref tab, .int tan])), (tab, .inl (tabt, 940, .inl tabf))] H := hP
  have hD : va_D A [(tk, .inr (7, [.ref ta, .int tkm, .int tkb, .int tkk, .int tka, .int tkv, .long tkc, .ref (ad 0), .int tkf, .int tkg])), (ta, .inr (6, [.ref tab, .int tan])), (tab, .inl (tabt, 940, .inl tabf))] := hD
  have hK : va_K D vwCl [(tabt, .byte)] s := hK
  refine W.cs (cells' := 0) (slots' := 0) rfl rfl ?_
  refine W.eq (g2 := F0 m 8 ls (.int y_1 :: [])) rfl ?_
  refine lv_istore_n (lv' := [(2, .int y_1), (0, .ref tk), (1, .int i0)]) hx hb dX7_readSign_8 rfl hl (by decide) rfl (fun ls hl => ?_)
  refine lv_iload_n hx hb dX7_readSign_9 rfl (lv_at hl 0 rfl) ?_
  refine lv_bipush (v := 59) hx hb dX7_readSign_10 (by decide) ?_
  refine lv_icmp_eq (tgt := 45) hx hb dX7_readSign_12 (by decide) (fun c_6 => ?_) (fun c_6 => ?_)
  · skip
    have h_7 : z_in (-1) 59 y_1 := z_leL (Int32.le_of_eq c_6) h_2 (z_lit (x := 59) (a := 59) (b := 59) rfl) rfl
    have h_8 : z_in 59 59 y_1 := z_leR (Int32.le_of_eq (Eq.symm c_6)) (z_lit (x := 59) (a := 59) (b := 59) rfl) h_7 rfl
    have h_9 : z_in 1 940 tan := z_both htan (h_3 (Int.le_trans (by decide) h_8.1)) rfl
    refine lv_iconst (v := 1) hx hb dX7_readSign_45 (by decide) ?_
    refine lv_goto (tgt := 50) hx hb dX7_readSign_46 (by decide) ?_
    refine lv_istore_n (lv' := [(3, .int 1), (2, .int y_1), (0, .ref tk), (1, .int i0)]) hx hb dX7_readSign_50 rfl hl (by decide) rfl (fun ls hl => ?_)
    refine lv_aload_n hx hb dX7_readSign_51 rfl (lv_at hl 2 rfl) ?_
    refine lv_iload_n hx hb dX7_readSign_52 rfl (lv_at hl 0 rfl) ?_
    refine lv_if_eq (tgt := 60) hx hb dX7_readSign_53 (by decide) (fun h9 => absurd h9 (by decide)) (fun _ => ?_)
    refine lv_iconst (v := 2) hx hb dX7_readSign_56 (by decide) ?_
    refine lv_goto (tgt := 61) hx hb dX7_readSign_57 (by decide) ?_
    refine va_put (D := D) (ci := 7) (v := .int 2) (ty := tyX7 3) (C := RX7) (T := TX7) (N := 10) hx hb hts hiX7 tyX7 tyX7_ok nmX7 hown hK hP hD hS 0 rfl rfl 3 (by decide) (hts _ (List.mem_of_getElem? (i := 2) rfl)) (fun _ h9 => h9) rfl (tyX7_ok 3 (by decide)) rfl rfl (Nat.le_of_ble_eq_true rfl) dX7_readSign_61 (fun H locs hP hD hS => ?_)
    have hP : va_P D vwCl [(tk, .inr (7, [.ref ta, .int tkm, .int tkb, .int 2, .int tka, .int tkv, .long tkc, .ref (ad 0), .int tkf, .int tkg])), (ta, .inr (6, [.ref tab, .int tan])), (tab, .inl (tabt, 940, .inl tabf))] H := hP
    have hD : va_D A [(tk, .inr (7, [.ref ta, .int tkm, .int tkb, .int 2, .int tka, .int tkv, .long tkc, .ref (ad 0), .int tkf, .int tkg])), (ta, .inr (6, [.ref tab, .int tan])), (tab, .inl (tabt, 940, .inl tabf))] := hD
    refine lv_aload_n hx hb dX7_readSign_64 rfl (lv_at hl 2 rfl) ?_
    refine lv_iload_n hx hb dX7_readSign_65 rfl (lv_at hl 1 rfl) ?_
    refine va_put (D := D) (ci := 7) (v := .int y_1) (ty := tyX7 5) (C := RX7) (T := TX7) (N := 10) hx hb hts hiX7 tyX7 tyX7_ok nmX7 hown hK hP hD hS 0 rfl rfl 5 (by decide) (hts _ (List.mem_of_getElem? (i := 3) rfl)) (fun _ h9 => h9) rfl (tyX7_ok 5 (by decide)) rfl rfl (Nat.le_of_ble_eq_true rfl) dX7_readSign_66 (fun H locs hP hD hS => ?_)
    have hP : va_P D vwCl [(tk, .inr (7, [.ref ta, .int tkm, .int tkb, .int 2, .int tka, .int y_1, .long tkc, .ref (ad 0), .int tkf, .int tkg])), (ta, .inr (6, [.ref tab, .int tan])), (tab, .inl (tabt, 940, .inl tabf))] H := hP
    have hD : va_D A [(tk, .inr (7, [.ref ta, .int tkm, .int tkb, .int 2, .int tka, .int y_1, .long tkc, .ref (ad 0), .int tkf, .int tkg])), (ta, .inr (6, [.ref tab, .int tan])), (tab, .inl (tabt, 940, .inl tabf))] := hD
    refine lv_aload_n hx hb dX7_readSign_69 rfl (lv_at hl 2 rfl) ?_
    refine lv_iload_n hx hb dX7_readSign_70 rfl (lv_at hl 3 rfl) ?_
    refine va_put (D := D) (ci := 7) (v := .int i0) (ty := tyX7 4) (C := RX7) (T := TX7) (N := 10) hx hb hts hiX7 tyX7 tyX7_ok nmX7 hown hK hP hD hS 0 rfl rfl 4 (by decide) (hts _ (List.mem_of_getElem? (i := 4) rfl)) (fun _ h9 => h9) rfl (tyX7_ok 4 (by decide)) rfl rfl (Nat.le_of_ble_eq_true rfl) dX7_readSign_71 (fun H locs hP hD hS => ?_)
    have hP : va_P D vwCl [(tk, .inr (7, [.ref ta, .int tkm, .int tkb, .int 2, .int i0, .int y_1, .long tkc, .ref (ad 0), .int tkf, .int tkg])), (ta, .inr (6, [.ref tab, .int tan])), (tab, .inl (tabt, 940, .inl tabf))] H := hP
    have hD : va_D A [(tk, .inr (7, [.ref ta, .int tkm, .int tkb, .int 2, .int i0, .int y_1, .long tkc, .ref (ad 0), .int tkf, .int tkg])), (ta, .inr (6, [.ref tab, .int tan])), (tab, .inl (tabt, 940, .inl tabf))] := hD
    refine lv_aload_n hx hb dX7_readSign_74 rfl (lv_at hl 2 rfl) ?_
    refine lv_iload_n hx hb dX7_readSign_75 rfl (lv_at hl 3 rfl) ?_
    refine lv_iconst (v := 1) hx hb dX7_readSign_76 (by decide) ?_
    refine lv_iadd hx hb dX7_readSign_77 ?_
    refine lv_topi (fun y_10 ey_10 => ?_)
    have h_11 : z_in 1 940 y_10 := by rw [ey_10]; exact z_add hi0 (z_lit (x := 1) (a := 1) (b := 1) rfl) rfl rfl
    have ty_10 : y_10.toInt = i0.toInt + 1 := by rw [ey_10]; exact (z_addT hi0 (z_lit (x := 1) (a := 1) (b := 1) rfl) rfl).trans rfl
    refine va_put (D := D) (ci := 7) (v := .int y_10) (ty := tyX7 2) (C := RX7) (T := TX7) (N := 10) hx hb hts hiX7 tyX7 tyX7_ok nmX7 hown hK hP hD hS 0 rfl rfl 2 (by decide) (hts _ (List.mem_of_getElem? (i := 5) rfl)) (fun _ h9 => h9) rfl (tyX7_ok 2 (by decide)) rfl rfl (Nat.le_of_ble_eq_true rfl) dX7_readSign_78 (fun H locs hP hD hS => ?_)
    have hP : va_P D vwCl [(tk, .inr (7, [.ref ta, .int tkm, .int y_10, .int 2, .int i0, .int y_1, .long tkc, .ref (ad 0), .int tkf, .int tkg])), (ta, .inr (6, [.ref tab, .int tan])), (tab, .inl (tabt, 940, .inl tabf))] H := hP
    have hD : va_D A [(tk, .inr (7, [.ref ta, .int tkm, .int y_10, .int 2, .int i0, .int y_1, .long tkc, .ref (ad 0), .int tkf, .int tkg])), (ta, .inr (6, [.ref tab, .int tan])), (tab, .inl (tabt, 940, .inl tabf))] := hD
    exact hret ([(tk, .inr (7, [.ref ta, .int tkm, .int y_10, .int 2, .int i0, .int y_1, .long tkc, .ref (ad 0), .int tkf, .int tkg])), (ta, .inr (6, [.ref tab, .int tan])), (tab, .inl (tabt, 940, .inl tabf))], []) _ _ _ _ dX7_readSign_81 ⟨y_10, 2, i0, y_1, (z_w (c := 0) (d := 940) h_11 rfl), (z_w (c := 0) (d := 4) (z_lit (x := 2) (a := 2) (b := 2) rfl) rfl), (z_rsT h_5 ty_10 (z_sgn1 (z_eqk h_8 rfl))), (show z_sz i0 i0 from rfl), rfl⟩ hP (hK.sub [] rfl) hD hS
  · skip
    refine lv_iload_n hx hb dX7_readSign_15 rfl (lv_at hl 0 rfl) ?_
    refine lv_bipush (v := 60) hx hb dX7_readSign_16 (by decide) ?_
    refine lv_icmp_eq (tgt := 45) hx hb dX7_readSign_18 (by decide) (fun c_12 => ?_) (fun c_12 => ?_)
    · skip
      have h_13 : z_in (-1) 60 y_1 := z_leL (Int32.le_of_eq c_12) h_2 (z_lit (x := 60) (a := 60) (b := 60) rfl) rfl
      have h_14 : z_in 60 60 y_1 := z_leR (Int32.le_of_eq (Eq.symm c_12)) (z_lit (x := 60) (a := 60) (b := 60) rfl) h_13 rfl
      have h_15 : z_in 1 940 tan := z_both htan (h_3 (Int.le_trans (by decide) h_14.1)) rfl
      refine lv_iconst (v := 1) hx hb dX7_readSign_45 (by decide) ?_
      refine lv_goto (tgt := 50) hx hb dX7_readSign_46 (by decide) ?_
      refine lv_istore_n (lv' := [(3, .int 1), (2, .int y_1), (0, .ref tk), (1, .int i0)]) hx hb dX7_readSign_50 rfl hl (by decide) rfl (fun ls hl => ?_)
      refine lv_aload_n hx hb dX7_readSign_51 rfl (lv_at hl 2 rfl) ?_
      refine lv_iload_n hx hb dX7_readSign_52 rfl (lv_at hl 0 rfl) ?_
      refine lv_if_eq (tgt := 60) hx hb dX7_readSign_53 (by decide) (fun h9 => absurd h9 (by decide)) (fun _ => ?_)
      refine lv_iconst (v := 2) hx hb dX7_readSign_56 (by decide) ?_
      refine lv_goto (tgt := 61) hx hb dX7_readSign_57 (by decide) ?_
      refine va_put (D := D) (ci := 7) (v := .int 2) (ty := tyX7 3) (C := RX7) (T := TX7) (N := 10) hx hb hts hiX7 tyX7 tyX7_ok nmX7 hown hK hP hD hS 0 rfl rfl 3 (by decide) (hts _ (List.mem_of_getElem? (i := 2) rfl)) (fun _ h9 => h9) rfl (tyX7_ok 3 (by decide)) rfl rfl (Nat.le_of_ble_eq_true rfl) dX7_readSign_61 (fun H locs hP hD hS => ?_)
      have hP : va_P D vwCl [(tk, .inr (7, [.ref ta, .int tkm, .int tkb, .int 2, .int tka, .int tkv, .long tkc, .ref (ad 0), .int tkf, .int tkg])), (ta, .inr (6, [.ref tab, .int tan])), (tab, .inl (tabt, 940, .inl tabf))] H := hP
      have hD : va_D A [(tk, .inr (7, [.ref ta, .int tkm, .int tkb, .int 2, .int tka, .int tkv, .long tkc, .ref (ad 0), .int tkf, .int tkg])), (ta, .inr (6, [.ref tab, .int tan])), (tab, .inl (tabt, 940, .inl tabf))] := hD
      refine lv_aload_n hx hb dX7_readSign_64 rfl (lv_at hl 2 rfl) ?_
      refine lv_iload_n hx hb dX7_readSign_65 rfl (lv_at hl 1 rfl) ?_
      refine va_put (D := D) (ci := 7) (v := .int y_1) (ty := tyX7 5) (C := RX7) (T := TX7) (N := 10) hx hb hts hiX7 tyX7 tyX7_ok nmX7 hown hK hP hD hS 0 rfl rfl 5 (by decide) (hts _ (List.mem_of_getElem? (i := 3) rfl)) (fun _ h9 => h9) rfl (tyX7_ok 5 (by decide)) rfl rfl (Nat.le_of_ble_eq_true rfl) dX7_readSign_66 (fun H locs hP hD hS => ?_)
      have hP : va_P D vwCl [(tk, .inr (7, [.ref ta, .int tkm, .int tkb, .int 2, .int tka, .int y_1, .long tkc, .ref (ad 0), .int tkf, .int tkg])), (ta, .inr (6, [.ref tab, .int tan])), (tab, .inl (tabt, 940, .inl tabf))] H := hP
      have hD : va_D A [(tk, .inr (7, [.ref ta, .int tkm, .int tkb, .int 2, .int tka, .int y_1, .long tkc, .ref (ad 0), .int tkf, .int tkg])), (ta, .inr (6, [.ref tab, .int tan])), (tab, .inl (tabt, 940, .inl tabf))] := hD
      refine lv_aload_n hx hb dX7_readSign_69 rfl (lv_at hl 2 rfl) ?_
      refine lv_iload_n hx hb dX7_readSign_70 rfl (lv_at hl 3 rfl) ?_
      refine va_put (D := D) (ci := 7) (v := .int i0) (ty := tyX7 4) (C := RX7) (T := TX7) (N := 10) hx hb hts hiX7 tyX7 tyX7_ok nmX7 hown hK hP hD hS 0 rfl rfl 4 (by decide) (hts _ (List.mem_of_getElem? (i := 4) rfl)) (fun _ h9 => h9) rfl (tyX7_ok 4 (by decide)) rfl rfl (Nat.le_of_ble_eq_true rfl) dX7_readSign_71 (fun H locs hP hD hS => ?_)
      have hP : va_P D vwCl [(tk, .inr (7, [.ref ta, .int tkm, .int tkb, .int 2, .int i0, .int y_1, .long tkc, .ref (ad 0), .int tkf, .int tkg])), (ta, .inr (6, [.ref tab, .int tan])), (tab, .inl (tabt, 940, .inl tabf))] H := hP
      have hD : va_D A [(tk, .inr (7, [.ref ta, .int tkm, .int tkb, .int 2, .int i0, .int y_1, .long tkc, .ref (ad 0), .int tkf, .int tkg])), (ta, .inr (6, [.ref tab, .int tan])), (tab, .inl (tabt, 940, .inl tabf))] := hD
      refine lv_aload_n hx hb dX7_readSign_74 rfl (lv_at hl 2 rfl) ?_
      refine lv_iload_n hx hb dX7_readSign_75 rfl (lv_at hl 3 rfl) ?_
      refine lv_iconst (v := 1) hx hb dX7_readSign_76 (by decide) ?_
      refine lv_iadd hx hb dX7_readSign_77 ?_
      refine lv_topi (fun y_16 ey_16 => ?_)
      have h_17 : z_in 1 940 y_16 := by rw [ey_16]; exact z_add hi0 (z_lit (x := 1) (a := 1) (b := 1) rfl) rfl rfl
      have ty_16 : y_16.toInt = i0.toInt + 1 := by rw [ey_16]; exact (z_addT hi0 (z_lit (x := 1) (a := 1) (b := 1) rfl) rfl).trans rfl
      refine va_put (D := D) (ci := 7) (v := .int y_16) (ty := tyX7 2) (C := RX7) (T := TX7) (N := 10) hx hb hts hiX7 tyX7 tyX7_ok nmX7 hown hK hP hD hS 0 rfl rfl 2 (by decide) (hts _ (List.mem_of_getElem? (i := 5) rfl)) (fun _ h9 => h9) rfl (tyX7_ok 2 (by decide)) rfl rfl (Nat.le_of_ble_eq_true rfl) dX7_readSign_78 (fun H locs hP hD hS => ?_)
      have hP : va_P D vwCl [(tk, .inr (7, [.ref ta, .int tkm, .int y_16, .int 2, .int i0, .int y_1, .long tkc, .ref (ad 0), .int tkf, .int tkg])), (ta, .inr (6, [.ref tab, .int tan])), (tab, .inl (tabt, 940, .inl tabf))] H := hP
      have hD : va_D A [(tk, .inr (7, [.ref ta, .int tkm, .int y_16, .int 2, .int i0, .int y_1, .long tkc, .ref (ad 0), .int tkf, .int tkg])), (ta, .inr (6, [.ref tab, .int tan])), (tab, .inl (tabt, 940, .inl tabf))] := hD
      exact hret ([(tk, .inr (7, [.ref ta, .int tkm, .int y_16, .int 2, .int i0, .int y_1, .long tkc, .ref (ad 0), .int tkf, .int tkg])), (ta, .inr (6, [.ref tab, .int tan])), (tab, .inl (tabt, 940, .inl tabf))], []) _ _ _ _ dX7_readSign_81 ⟨y_16, 2, i0, y_1, (z_w (c := 0) (d := 940) h_17 rfl), (z_w (c := 0) (d := 4) (z_lit (x := 2) (a := 2) (b := 2) rfl) rfl), (z_rsT h_5 ty_16 (z_sgn2 (z_eqk h_14 rfl))), (show z_sz i0 i0 from rfl), rfl⟩ hP (hK.sub [] rfl) hD hS
    · skip
      refine lv_iload_n hx hb dX7_readSign_21 rfl (lv_at hl 0 rfl) ?_
      refine lv_bipush (v := 61) hx hb dX7_readSign_22 (by decide) ?_
      refine lv_icmp_eq (tgt := 45) hx hb dX7_readSign_24 (by decide) (fun c_18 => ?_) (fun c_18 => ?_)
      · skip
        have h_19 : z_in (-1) 61 y_1 := z_leL (Int32.le_of_eq c_18) h_2 (z_lit (x := 61) (a := 61) (b := 61) rfl) rfl
        have h_20 : z_in 61 61 y_1 := z_leR (Int32.le_of_eq (Eq.symm c_18)) (z_lit (x := 61) (a := 61) (b := 61) rfl) h_19 rfl
        have h_21 : z_in 1 940 tan := z_both htan (h_3 (Int.le_trans (by decide) h_20.1)) rfl
        refine lv_iconst (v := 1) hx hb dX7_readSign_45 (by decide) ?_
        refine lv_goto (tgt := 50) hx hb dX7_readSign_46 (by decide) ?_
        refine lv_istore_n (lv' := [(3, .int 1), (2, .int y_1), (0, .ref tk), (1, .int i0)]) hx hb dX7_readSign_50 rfl hl (by decide) rfl (fun ls hl => ?_)
        refine lv_aload_n hx hb dX7_readSign_51 rfl (lv_at hl 2 rfl) ?_
        refine lv_iload_n hx hb dX7_readSign_52 rfl (lv_at hl 0 rfl) ?_
        refine lv_if_eq (tgt := 60) hx hb dX7_readSign_53 (by decide) (fun h9 => absurd h9 (by decide)) (fun _ => ?_)
        refine lv_iconst (v := 2) hx hb dX7_readSign_56 (by decide) ?_
        refine lv_goto (tgt := 61) hx hb dX7_readSign_57 (by decide) ?_
        refine va_put (D := D) (ci := 7) (v := .int 2) (ty := tyX7 3) (C := RX7) (T := TX7) (N := 10) hx hb hts hiX7 tyX7 tyX7_ok nmX7 hown hK hP hD hS 0 rfl rfl 3 (by decide) (hts _ (List.mem_of_getElem? (i := 2) rfl)) (fun _ h9 => h9) rfl (tyX7_ok 3 (by decide)) rfl rfl (Nat.le_of_ble_eq_true rfl) dX7_readSign_61 (fun H locs hP hD hS => ?_)
        have hP : va_P D vwCl [(tk, .inr (7, [.ref ta, .int tkm, .int tkb, .int 2, .int tka, .int tkv, .long tkc, .ref (ad 0), .int tkf, .int tkg])), (ta, .inr (6, [.ref tab, .int tan])), (tab, .inl (tabt, 940, .inl tabf))] H := hP
        have hD : va_D A [(tk, .inr (7, [.ref ta, .int tkm, .int tkb, .int 2, .int tka, .int tkv, .long tkc, .ref (ad 0), .int tkf, .int tkg])), (ta, .inr (6, [.ref tab, .int tan])), (tab, .inl (tabt, 940, .inl tabf))] := hD
        refine lv_aload_n hx hb dX7_readSign_64 rfl (lv_at hl 2 rfl) ?_
        refine lv_iload_n hx hb dX7_readSign_65 rfl (lv_at hl 1 rfl) ?_
        refine va_put (D := D) (ci := 7) (v := .int y_1) (ty := tyX7 5) (C := RX7) (T := TX7) (N := 10) hx hb hts hiX7 tyX7 tyX7_ok nmX7 hown hK hP hD hS 0 rfl rfl 5 (by decide) (hts _ (List.mem_of_getElem? (i := 3) rfl)) (fun _ h9 => h9) rfl (tyX7_ok 5 (by decide)) rfl rfl (Nat.le_of_ble_eq_true rfl) dX7_readSign_66 (fun H locs hP hD hS => ?_)
        have hP : va_P D vwCl [(tk, .inr (7, [.ref ta, .int tkm, .int tkb, .int 2, .int tka, .int y_1, .long tkc, .ref (ad 0), .int tkf, .int tkg])), (ta, .inr (6, [.ref tab, .int tan])), (tab, .inl (tabt, 940, .inl tabf))] H := hP
        have hD : va_D A [(tk, .inr (7, [.ref ta, .int tkm, .int tkb, .int 2, .int tka, .int y_1, .long tkc, .ref (ad 0), .int tkf, .int tkg])), (ta, .inr (6, [.ref tab, .int tan])), (tab, .inl (tabt, 940, .inl tabf))] := hD
        refine lv_aload_n hx hb dX7_readSign_69 rfl (lv_at hl 2 rfl) ?_
        refine lv_iload_n hx hb dX7_readSign_70 rfl (lv_at hl 3 rfl) ?_
        refine va_put (D := D) (ci := 7) (v := .int i0) (ty := tyX7 4) (C := RX7) (T := TX7) (N := 10) hx hb hts hiX7 tyX7 tyX7_ok nmX7 hown hK hP hD hS 0 rfl rfl 4 (by decide) (hts _ (List.mem_of_getElem? (i := 4) rfl)) (fun _ h9 => h9) rfl (tyX7_ok 4 (by decide)) rfl rfl (Nat.le_of_ble_eq_true rfl) dX7_readSign_71 (fun H locs hP hD hS => ?_)
        have hP : va_P D vwCl [(tk, .inr (7, [.ref ta, .int tkm, .int tkb, .int 2, .int i0, .int y_1, .long tkc, .ref (ad 0), .int tkf, .int tkg])), (ta, .inr (6, [.ref tab, .int tan])), (tab, .inl (tabt, 940, .inl tabf))] H := hP
        have hD : va_D A [(tk, .inr (7, [.ref ta, .int tkm, .int tkb, .int 2, .int i0, .int y_1, .long tkc, .ref (ad 0), .int tkf, .int tkg])), (ta, .inr (6, [.ref tab, .int tan])), (tab, .inl (tabt, 940, .inl tabf))] := hD
        refine lv_aload_n hx hb dX7_readSign_74 rfl (lv_at hl 2 rfl) ?_
        refine lv_iload_n hx hb dX7_readSign_75 rfl (lv_at hl 3 rfl) ?_
        refine lv_iconst (v := 1) hx hb dX7_readSign_76 (by decide) ?_
        refine lv_iadd hx hb dX7_readSign_77 ?_
        refine lv_topi (fun y_22 ey_22 => ?_)
        have h_23 : z_in 1 940 y_22 := by rw [ey_22]; exact z_add hi0 (z_lit (x := 1) (a := 1) (b := 1) rfl) rfl rfl
        have ty_22 : y_22.toInt = i0.toInt + 1 := by rw [ey_22]; exact (z_addT hi0 (z_lit (x := 1) (a := 1) (b := 1) rfl) rfl).trans rfl
        refine va_put (D := D) (ci := 7) (v := .int y_22) (ty := tyX7 2) (C := RX7) (T := TX7) (N := 10) hx hb hts hiX7 tyX7 tyX7_ok nmX7 hown hK hP hD hS 0 rfl rfl 2 (by decide) (hts _ (List.mem_of_getElem? (i := 5) rfl)) (fun _ h9 => h9) rfl (tyX7_ok 2 (by decide)) rfl rfl (Nat.le_of_ble_eq_true rfl) dX7_readSign_78 (fun H locs hP hD hS => ?_)
        have hP : va_P D vwCl [(tk, .inr (7, [.ref ta, .int tkm, .int y_22, .int 2, .int i0, .int y_1, .long tkc, .ref (ad 0), .int tkf, .int tkg])), (ta, .inr (6, [.ref tab, .int tan])), (tab, .inl (tabt, 940, .inl tabf))] H := hP
        have hD : va_D A [(tk, .inr (7, [.ref ta, .int tkm, .int y_22, .int 2, .int i0, .int y_1, .long tkc, .ref (ad 0), .int tkf, .int tkg])), (ta, .inr (6, [.ref tab, .int tan])), (tab, .inl (tabt, 940, .inl tabf))] := hD
        exact hret ([(tk, .inr (7, [.ref ta, .int tkm, .int y_22, .int 2, .int i0, .int y_1, .long tkc, .ref (ad 0), .int tkf, .int tkg])), (ta, .inr (6, [.ref tab, .int tan])), (tab, .inl (tabt, 940, .inl tabf))], []) _ _ _ _ dX7_readSign_81 ⟨y_22, 2, i0, y_1, (z_w (c := 0) (d := 940) h_23 rfl), (z_w (c := 0) (d := 4) (z_lit (x := 2) (a := 2) (b := 2) rfl) rfl), (z_rsT h_5 ty_22 (z_sgn3 (z_eqk h_20 rfl))), (show z_sz i0 i0 from rfl), rfl⟩ hP (hK.sub [] rfl) hD hS
      · skip
        refine lv_iload_n hx hb dX7_readSign_27 rfl (lv_at hl 0 rfl) ?_
        refine lv_bipush (v := 62) hx hb dX7_readSign_28 (by decide) ?_
        refine lv_icmp_eq (tgt := 45) hx hb dX7_readSign_30 (by decide) (fun c_24 => ?_) (fun c_24 => ?_)
        · skip
          have h_25 : z_in (-1) 62 y_1 := z_leL (Int32.le_of_eq c_24) h_2 (z_lit (x := 62) (a := 62) (b := 62) rfl) rfl
          have h_26 : z_in 62 62 y_1 := z_leR (Int32.le_of_eq (Eq.symm c_24)) (z_lit (x := 62) (a := 62) (b := 62) rfl) h_25 rfl
          have h_27 : z_in 1 940 tan := z_both htan (h_3 (Int.le_trans (by decide) h_26.1)) rfl
          refine lv_iconst (v := 1) hx hb dX7_readSign_45 (by decide) ?_
          refine lv_goto (tgt := 50) hx hb dX7_readSign_46 (by decide) ?_
          refine lv_istore_n (lv' := [(3, .int 1), (2, .int y_1), (0, .ref tk), (1, .int i0)]) hx hb dX7_readSign_50 rfl hl (by decide) rfl (fun ls hl => ?_)
          refine lv_aload_n hx hb dX7_readSign_51 rfl (lv_at hl 2 rfl) ?_
          refine lv_iload_n hx hb dX7_readSign_52 rfl (lv_at hl 0 rfl) ?_
          refine lv_if_eq (tgt := 60) hx hb dX7_readSign_53 (by decide) (fun h9 => absurd h9 (by decide)) (fun _ => ?_)
          refine lv_iconst (v := 2) hx hb dX7_readSign_56 (by decide) ?_
          refine lv_goto (tgt := 61) hx hb dX7_readSign_57 (by decide) ?_
          refine va_put (D := D) (ci := 7) (v := .int 2) (ty := tyX7 3) (C := RX7) (T := TX7) (N := 10) hx hb hts hiX7 tyX7 tyX7_ok nmX7 hown hK hP hD hS 0 rfl rfl 3 (by decide) (hts _ (List.mem_of_getElem? (i := 2) rfl)) (fun _ h9 => h9) rfl (tyX7_ok 3 (by decide)) rfl rfl (Nat.le_of_ble_eq_true rfl) dX7_readSign_61 (fun H locs hP hD hS => ?_)
          have hP : va_P D vwCl [(tk, .inr (7, [.ref ta, .int tkm, .int tkb, .int 2, .int tka, .int tkv, .long tkc, .ref (ad 0), .int tkf, .int tkg])), (ta, .inr (6, [.ref tab, .int tan])), (tab, .inl (tabt, 940, .inl tabf))] H := hP
          have hD : va_D A [(tk, .inr (7, [.ref ta, .int tkm, .int tkb, .int 2, .int tka, .int tkv, .long tkc, .ref (ad 0), .int tkf, .int tkg])), (ta, .inr (6, [.ref tab, .int tan])), (tab, .inl (tabt, 940, .inl tabf))] := hD
          refine lv_aload_n hx hb dX7_readSign_64 rfl (lv_at hl 2 rfl) ?_
          refine lv_iload_n hx hb dX7_readSign_65 rfl (lv_at hl 1 rfl) ?_
          refine va_put (D := D) (ci := 7) (v := .int y_1) (ty := tyX7 5) (C := RX7) (T := TX7) (N := 10) hx hb hts hiX7 tyX7 tyX7_ok nmX7 hown hK hP hD hS 0 rfl rfl 5 (by decide) (hts _ (List.mem_of_getElem? (i := 3) rfl)) (fun _ h9 => h9) rfl (tyX7_ok 5 (by decide)) rfl rfl (Nat.le_of_ble_eq_true rfl) dX7_readSign_66 (fun H locs hP hD hS => ?_)
          have hP : va_P D vwCl [(tk, .inr (7, [.ref ta, .int tkm, .int tkb, .int 2, .int tka, .int y_1, .long tkc, .ref (ad 0), .int tkf, .int tkg])), (ta, .inr (6, [.ref tab, .int tan])), (tab, .inl (tabt, 940, .inl tabf))] H := hP
          have hD : va_D A [(tk, .inr (7, [.ref ta, .int tkm, .int tkb, .int 2, .int tka, .int y_1, .long tkc, .ref (ad 0), .int tkf, .int tkg])), (ta, .inr (6, [.ref tab, .int tan])), (tab, .inl (tabt, 940, .inl tabf))] := hD
          refine lv_aload_n hx hb dX7_readSign_69 rfl (lv_at hl 2 rfl) ?_
          refine lv_iload_n hx hb dX7_readSign_70 rfl (lv_at hl 3 rfl) ?_
          refine va_put (D := D) (ci := 7) (v := .int i0) (ty := tyX7 4) (C := RX7) (T := TX7) (N := 10) hx hb hts hiX7 tyX7 tyX7_ok nmX7 hown hK hP hD hS 0 rfl rfl 4 (by decide) (hts _ (List.mem_of_getElem? (i := 4) rfl)) (fun _ h9 => h9) rfl (tyX7_ok 4 (by decide)) rfl rfl (Nat.le_of_ble_eq_true rfl) dX7_readSign_71 (fun H locs hP hD hS => ?_)
          have hP : va_P D vwCl [(tk, .inr (7, [.ref ta, .int tkm, .int tkb, .int 2, .int i0, .int y_1, .long tkc, .ref (ad 0), .int tkf, .int tkg])), (ta, .inr (6, [.ref tab, .int tan])), (tab, .inl (tabt, 940, .inl tabf))] H := hP
          have hD : va_D A [(tk, .inr (7, [.ref ta, .int tkm, .int tkb, .int 2, .int i0, .int y_1, .long tkc, .ref (ad 0), .int tkf, .int tkg])), (ta, .inr (6, [.ref tab, .int tan])), (tab, .inl (tabt, 940, .inl tabf))] := hD
          refine lv_aload_n hx hb dX7_readSign_74 rfl (lv_at hl 2 rfl) ?_
          refine lv_iload_n hx hb dX7_readSign_75 rfl (lv_at hl 3 rfl) ?_
          refine lv_iconst (v := 1) hx hb dX7_readSign_76 (by decide) ?_
          refine lv_iadd hx hb dX7_readSign_77 ?_
          refine lv_topi (fun y_28 ey_28 => ?_)
          have h_29 : z_in 1 940 y_28 := by rw [ey_28]; exact z_add hi0 (z_lit (x := 1) (a := 1) (b := 1) rfl) rfl rfl
          have ty_28 : y_28.toInt = i0.toInt + 1 := by rw [ey_28]; exact (z_addT hi0 (z_lit (x := 1) (a := 1) (b := 1) rfl) rfl).trans rfl
          refine va_put (D := D) (ci := 7) (v := .int y_28) (ty := tyX7 2) (C := RX7) (T := TX7) (N := 10) hx hb hts hiX7 tyX7 tyX7_ok nmX7 hown hK hP hD hS 0 rfl rfl 2 (by decide) (hts _ (List.mem_of_getElem? (i := 5) rfl)) (fun _ h9 => h9) rfl (tyX7_ok 2 (by decide)) rfl rfl (Nat.le_of_ble_eq_true rfl) dX7_readSign_78 (fun H locs hP hD hS => ?_)
          have hP : va_P D vwCl [(tk, .inr (7, [.ref ta, .int tkm, .int y_28, .int 2, .int i0, .int y_1, .long tkc, .ref (ad 0), .int tkf, .int tkg])), (ta, .inr (6, [.ref tab, .int tan])), (tab, .inl (tabt, 940, .inl tabf))] H := hP
          have hD : va_D A [(tk, .inr (7, [.ref ta, .int tkm, .int y_28, .int 2, .int i0, .int y_1, .long tkc, .ref (ad 0), .int tkf, .int tkg])), (ta, .inr (6, [.ref tab, .int tan])), (tab, .inl (tabt, 940, .inl tabf))] := hD
          exact hret ([(tk, .inr (7, [.ref ta, .int tkm, .int y_28, .int 2, .int i0, .int y_1, .long tkc, .ref (ad 0), .int tkf, .int tkg])), (ta, .inr (6, [.ref tab, .int tan])), (tab, .inl (tabt, 940, .inl tabf))], []) _ _ _ _ dX7_readSign_81 ⟨y_28, 2, i0, y_1, (z_w (c := 0) (d := 940) h_29 rfl), (z_w (c := 0) (d := 4) (z_lit (x := 2) (a := 2) (b := 2) rfl) rfl), (z_rsT h_5 ty_28 (z_sgn4 (z_eqk h_26 rfl))), (show z_sz i0 i0 from rfl), rfl⟩ hP (hK.sub [] rfl) hD hS
        · skip
          refine lv_iload_n hx hb dX7_readSign_33 rfl (lv_at hl 0 rfl) ?_
          refine lv_bipush (v := 40) hx hb dX7_readSign_34 (by decide) ?_
          refine lv_icmp_eq (tgt := 45) hx hb dX7_readSign_36 (by decide) (fun c_30 => ?_) (fun c_30 => ?_)
          · skip
            have h_31 : z_in (-1) 40 y_1 := z_leL (Int32.le_of_eq c_30) h_2 (z_lit (x := 40) (a := 40) (b := 40) rfl) rfl
            have h_32 : z_in 40 40 y_1 := z_leR (Int32.le_of_eq (Eq.symm c_30)) (z_lit (x := 40) (a := 40) (b := 40) rfl) h_31 rfl
            have h_33 : z_in 1 940 tan := z_both htan (h_3 (Int.le_trans (by decide) h_32.1)) rfl
            refine lv_iconst (v := 1) hx hb dX7_readSign_45 (by decide) ?_
            refine lv_goto (tgt := 50) hx hb dX7_readSign_46 (by decide) ?_
            refine lv_istore_n (lv' := [(3, .int 1), (2, .int y_1), (0, .ref tk), (1, .int i0)]) hx hb dX7_readSign_50 rfl hl (by decide) rfl (fun ls hl => ?_)
            refine lv_aload_n hx hb dX7_readSign_51 rfl (lv_at hl 2 rfl) ?_
            refine lv_iload_n hx hb dX7_readSign_52 rfl (lv_at hl 0 rfl) ?_
            refine lv_if_eq (tgt := 60) hx hb dX7_readSign_53 (by decide) (fun h9 => absurd h9 (by decide)) (fun _ => ?_)
            refine lv_iconst (v := 2) hx hb dX7_readSign_56 (by decide) ?_
            refine lv_goto (tgt := 61) hx hb dX7_readSign_57 (by decide) ?_
            refine va_put (D := D) (ci := 7) (v := .int 2) (ty := tyX7 3) (C := RX7) (T := TX7) (N := 10) hx hb hts hiX7 tyX7 tyX7_ok nmX7 hown hK hP hD hS 0 rfl rfl 3 (by decide) (hts _ (List.mem_of_getElem? (i := 2) rfl)) (fun _ h9 => h9) rfl (tyX7_ok 3 (by decide)) rfl rfl (Nat.le_of_ble_eq_true rfl) dX7_readSign_61 (fun H locs hP hD hS => ?_)
            have hP : va_P D vwCl [(tk, .inr (7, [.ref ta, .int tkm, .int tkb, .int 2, .int tka, .int tkv, .long tkc, .ref (ad 0), .int tkf, .int tkg])), (ta, .inr (6, [.ref tab, .int tan])), (tab, .inl (tabt, 940, .inl tabf))] H := hP
            have hD : va_D A [(tk, .inr (7, [.ref ta, .int tkm, .int tkb, .int 2, .int tka, .int tkv, .long tkc, .ref (ad 0), .int tkf, .int tkg])), (ta, .inr (6, [.ref tab, .int tan])), (tab, .inl (tabt, 940, .inl tabf))] := hD
            refine lv_aload_n hx hb dX7_readSign_64 rfl (lv_at hl 2 rfl) ?_
            refine lv_iload_n hx hb dX7_readSign_65 rfl (lv_at hl 1 rfl) ?_
            refine va_put (D := D) (ci := 7) (v := .int y_1) (ty := tyX7 5) (C := RX7) (T := TX7) (N := 10) hx hb hts hiX7 tyX7 tyX7_ok nmX7 hown hK hP hD hS 0 rfl rfl 5 (by decide) (hts _ (List.mem_of_getElem? (i := 3) rfl)) (fun _ h9 => h9) rfl (tyX7_ok 5 (by decide)) rfl rfl (Nat.le_of_ble_eq_true rfl) dX7_readSign_66 (fun H locs hP hD hS => ?_)
            have hP : va_P D vwCl [(tk, .inr (7, [.ref ta, .int tkm, .int tkb, .int 2, .int tka, .int y_1, .long tkc, .ref (ad 0), .int tkf, .int tkg])), (ta, .inr (6, [.ref tab, .int tan])), (tab, .inl (tabt, 940, .inl tabf))] H := hP
            have hD : va_D A [(tk, .inr (7, [.ref ta, .int tkm, .int tkb, .int 2, .int tka, .int y_1, .long tkc, .ref (ad 0), .int tkf, .int tkg])), (ta, .inr (6, [.ref tab, .int tan])), (tab, .inl (tabt, 940, .inl tabf))] := hD
            refine lv_aload_n hx hb dX7_readSign_69 rfl (lv_at hl 2 rfl) ?_
            refine lv_iload_n hx hb dX7_readSign_70 rfl (lv_at hl 3 rfl) ?_
            refine va_put (D := D) (ci := 7) (v := .int i0) (ty := tyX7 4) (C := RX7) (T := TX7) (N := 10) hx hb hts hiX7 tyX7 tyX7_ok nmX7 hown hK hP hD hS 0 rfl rfl 4 (by decide) (hts _ (List.mem_of_getElem? (i := 4) rfl)) (fun _ h9 => h9) rfl (tyX7_ok 4 (by decide)) rfl rfl (Nat.le_of_ble_eq_true rfl) dX7_readSign_71 (fun H locs hP hD hS => ?_)
            have hP : va_P D vwCl [(tk, .inr (7, [.ref ta, .int tkm, .int tkb, .int 2, .int i0, .int y_1, .long tkc, .ref (ad 0), .int tkf, .int tkg])), (ta, .inr (6, [.ref tab, .int tan])), (tab, .inl (tabt, 940, .inl tabf))] H := hP
            have hD : va_D A [(tk, .inr (7, [.ref ta, .int tkm, .int tkb, .int 2, .int i0, .int y_1, .long tkc, .ref (ad 0), .int tkf, .int tkg])), (ta, .inr (6, [.ref tab, .int tan])), (tab, .inl (tabt, 940, .inl tabf))] := hD
            refine lv_aload_n hx hb dX7_readSign_74 rfl (lv_at hl 2 rfl) ?_
            refine lv_iload_n hx hb dX7_readSign_75 rfl (lv_at hl 3 rfl) ?_
            refine lv_iconst (v := 1) hx hb dX7_readSign_76 (by decide) ?_
            refine lv_iadd hx hb dX7_readSign_77 ?_
            refine lv_topi (fun y_34 ey_34 => ?_)
            have h_35 : z_in 1 940 y_34 := by rw [ey_34]; exact z_add hi0 (z_lit (x := 1) (a := 1) (b := 1) rfl) rfl rfl
            have ty_34 : y_34.toInt = i0.toInt + 1 := by rw [ey_34]; exact (z_addT hi0 (z_lit (x := 1) (a := 1) (b := 1) rfl) rfl).trans rfl
            refine va_put (D := D) (ci := 7) (v := .int y_34) (ty := tyX7 2) (C := RX7) (T := TX7) (N := 10) hx hb hts hiX7 tyX7 tyX7_ok nmX7 hown hK hP hD hS 0 rfl rfl 2 (by decide) (hts _ (List.mem_of_getElem? (i := 5) rfl)) (fun _ h9 => h9) rfl (tyX7_ok 2 (by decide)) rfl rfl (Nat.le_of_ble_eq_true rfl) dX7_readSign_78 (fun H locs hP hD hS => ?_)
            have hP : va_P D vwCl [(tk, .inr (7, [.ref ta, .int tkm, .int y_34, .int 2, .int i0, .int y_1, .long tkc, .ref (ad 0), .int tkf, .int tkg])), (ta, .inr (6, [.ref tab, .int tan])), (tab, .inl (tabt, 940, .inl tabf))] H := hP
            have hD : va_D A [(tk, .inr (7, [.ref ta, .int tkm, .int y_34, .int 2, .int i0, .int y_1, .long tkc, .ref (ad 0), .int tkf, .int tkg])), (ta, .inr (6, [.ref tab, .int tan])), (tab, .inl (tabt, 940, .inl tabf))] := hD
            exact hret ([(tk, .inr (7, [.ref ta, .int tkm, .int y_34, .int 2, .int i0, .int y_1, .long tkc, .ref (ad 0), .int tkf, .int tkg])), (ta, .inr (6, [.ref tab, .int tan])), (tab, .inl (tabt, 940, .inl tabf))], []) _ _ _ _ dX7_readSign_81 ⟨y_34, 2, i0, y_1, (z_w (c := 0) (d := 940) h_35 rfl), (z_w (c := 0) (d := 4) (z_lit (x := 2) (a := 2) (b := 2) rfl) rfl), (z_rsT h_5 ty_34 (z_sgn5 (z_eqk h_32 rfl))), (show z_sz i0 i0 from rfl), rfl⟩ hP (hK.sub [] rfl) hD hS
          · skip
            refine lv_iload_n hx hb dX7_readSign_39 rfl (lv_at hl 0 rfl) ?_
            refine lv_bipush (v := 41) hx hb dX7_readSign_40 (by decide) ?_
            refine lv_icmp_ne (tgt := 49) hx hb dX7_readSign_42 (by decide) (fun c_36 => ?_) (fun c_36 => ?_)
            · skip
              refine lv_iconst (v := 0) hx hb dX7_readSign_49 (by decide) ?_
              refine lv_istore_n (lv' := [(3, .int 0), (2, .int y_1), (0, .ref tk), (1, .int i0)]) hx hb dX7_readSign_50 rfl hl (by decide) rfl (fun ls hl => ?_)
              refine lv_aload_n hx hb dX7_readSign_51 rfl (lv_at hl 2 rfl) ?_
              refine lv_iload_n hx hb dX7_readSign_52 rfl (lv_at hl 0 rfl) ?_
              refine lv_if_eq (tgt := 60) hx hb dX7_readSign_53 (by decide) (fun _ => ?_) (fun h9 => absurd (by decide) h9)
              refine lv_iconst (v := 1) hx hb dX7_readSign_60 (by decide) ?_
              refine va_put (D := D) (ci := 7) (v := .int 1) (ty := tyX7 3) (C := RX7) (T := TX7) (N := 10) hx hb hts hiX7 tyX7 tyX7_ok nmX7 hown hK hP hD hS 0 rfl rfl 3 (by decide) (hts _ (List.mem_of_getElem? (i := 2) rfl)) (fun _ h9 => h9) rfl (tyX7_ok 3 (by decide)) rfl rfl (Nat.le_of_ble_eq_true rfl) dX7_readSign_61 (fun H locs hP hD hS => ?_)
              have hP : va_P D vwCl [(tk, .inr (7, [.ref ta, .int tkm, .int tkb, .int 1, .int tka, .int tkv, .long tkc, .ref (ad 0), .int tkf, .int tkg])), (ta, .inr (6, [.ref tab, .int tan])), (tab, .inl (tabt, 940, .inl tabf))] H := hP
              have hD : va_D A [(tk, .inr (7, [.ref ta, .int tkm, .int tkb, .int 1, .int tka, .int tkv, .long tkc, .ref (ad 0), .int tkf, .int tkg])), (ta, .inr (6, [.ref tab, .int tan])), (tab, .inl (tabt, 940, .inl tabf))] := hD
              refine lv_aload_n hx hb dX7_readSign_64 rfl (lv_at hl 2 rfl) ?_
              refine lv_iload_n hx hb dX7_readSign_65 rfl (lv_at hl 1 rfl) ?_
              refine va_put (D := D) (ci := 7) (v := .int y_1) (ty := tyX7 5) (C := RX7) (T := TX7) (N := 10) hx hb hts hiX7 tyX7 tyX7_ok nmX7 hown hK hP hD hS 0 rfl rfl 5 (by decide) (hts _ (List.mem_of_getElem? (i := 3) rfl)) (fun _ h9 => h9) rfl (tyX7_ok 5 (by decide)) rfl rfl (Nat.le_of_ble_eq_true rfl) dX7_readSign_66 (fun H locs hP hD hS => ?_)
              have hP : va_P D vwCl [(tk, .inr (7, [.ref ta, .int tkm, .int tkb, .int 1, .int tka, .int y_1, .long tkc, .ref (ad 0), .int tkf, .int tkg])), (ta, .inr (6, [.ref tab, .int tan])), (tab, .inl (tabt, 940, .inl tabf))] H := hP
              have hD : va_D A [(tk, .inr (7, [.ref ta, .int tkm, .int tkb, .int 1, .int tka, .int y_1, .long tkc, .ref (ad 0), .int tkf, .int tkg])), (ta, .inr (6, [.ref tab, .int tan])), (tab, .inl (tabt, 940, .inl tabf))] := hD
              refine lv_aload_n hx hb dX7_readSign_69 rfl (lv_at hl 2 rfl) ?_
              refine lv_iload_n hx hb dX7_readSign_70 rfl (lv_at hl 3 rfl) ?_
              refine va_put (D := D) (ci := 7) (v := .int i0) (ty := tyX7 4) (C := RX7) (T := TX7) (N := 10) hx hb hts hiX7 tyX7 tyX7_ok nmX7 hown hK hP hD hS 0 rfl rfl 4 (by decide) (hts _ (List.mem_of_getElem? (i := 4) rfl)) (fun _ h9 => h9) rfl (tyX7_ok 4 (by decide)) rfl rfl (Nat.le_of_ble_eq_true rfl) dX7_readSign_71 (fun H locs hP hD hS => ?_)
              have hP : va_P D vwCl [(tk, .inr (7, [.ref ta, .int tkm, .int tkb, .int 1, .int i0, .int y_1, .long tkc, .ref (ad 0), .int tkf, .int tkg])), (ta, .inr (6, [.ref tab, .int tan])), (tab, .inl (tabt, 940, .inl tabf))] H := hP
              have hD : va_D A [(tk, .inr (7, [.ref ta, .int tkm, .int tkb, .int 1, .int i0, .int y_1, .long tkc, .ref (ad 0), .int tkf, .int tkg])), (ta, .inr (6, [.ref tab, .int tan])), (tab, .inl (tabt, 940, .inl tabf))] := hD
              refine lv_aload_n hx hb dX7_readSign_74 rfl (lv_at hl 2 rfl) ?_
              refine lv_iload_n hx hb dX7_readSign_75 rfl (lv_at hl 3 rfl) ?_
              refine lv_iconst (v := 1) hx hb dX7_readSign_76 (by decide) ?_
              refine lv_iadd hx hb dX7_readSign_77 ?_
              refine lv_topi (fun y_37 ey_37 => ?_)
              have h_38 : z_in 1 940 y_37 := by rw [ey_37]; exact z_add hi0 (z_lit (x := 1) (a := 1) (b := 1) rfl) rfl rfl
              have ty_37 : y_37.toInt = i0.toInt + 1 := by rw [ey_37]; exact (z_addT hi0 (z_lit (x := 1) (a := 1) (b := 1) rfl) rfl).trans rfl
              refine va_put (D := D) (ci := 7) (v := .int y_37) (ty := tyX7 2) (C := RX7) (T := TX7) (N := 10) hx hb hts hiX7 tyX7 tyX7_ok nmX7 hown hK hP hD hS 0 rfl rfl 2 (by decide) (hts _ (List.mem_of_getElem? (i := 5) rfl)) (fun _ h9 => h9) rfl (tyX7_ok 2 (by decide)) rfl rfl (Nat.le_of_ble_eq_true rfl) dX7_readSign_78 (fun H locs hP hD hS => ?_)
              have hP : va_P D vwCl [(tk, .inr (7, [.ref ta, .int tkm, .int y_37, .int 1, .int i0, .int y_1, .long tkc, .ref (ad 0), .int tkf, .int tkg])), (ta, .inr (6, [.ref tab, .int tan])), (tab, .inl (tabt, 940, .inl tabf))] H := hP
              have hD : va_D A [(tk, .inr (7, [.ref ta, .int tkm, .int y_37, .int 1, .int i0, .int y_1, .long tkc, .ref (ad 0), .int tkf, .int tkg])), (ta, .inr (6, [.ref tab, .int tan])), (tab, .inl (tabt, 940, .inl tabf))] := hD
              exact hret ([(tk, .inr (7, [.ref ta, .int tkm, .int y_37, .int 1, .int i0, .int y_1, .long tkc, .ref (ad 0), .int tkf, .int tkg])), (ta, .inr (6, [.ref tab, .int tan])), (tab, .inl (tabt, 940, .inl tabf))], []) _ _ _ _ dX7_readSign_81 ⟨y_37, 1, i0, y_1, (z_w (c := 0) (d := 940) h_38 rfl), (z_w (c := 0) (d := 4) (z_lit (x := 1) (a := 1) (b := 1) rfl) rfl), (z_rsF h_5 ty_37 c_6 c_12 c_18 c_24 c_30 c_36), (show z_sz i0 i0 from rfl), rfl⟩ hP (hK.sub [] rfl) hD hS
            · skip
              have h_39 : z_in (-1) 41 y_1 := z_leL (Int32.le_of_eq c_36) h_2 (z_lit (x := 41) (a := 41) (b := 41) rfl) rfl
              have h_40 : z_in 41 41 y_1 := z_leR (Int32.le_of_eq (Eq.symm c_36)) (z_lit (x := 41) (a := 41) (b := 41) rfl) h_39 rfl
              have h_41 : z_in 1 940 tan := z_both htan (h_3 (Int.le_trans (by decide) h_40.1)) rfl
              refine lv_iconst (v := 1) hx hb dX7_readSign_45 (by decide) ?_
              refine lv_goto (tgt := 50) hx hb dX7_readSign_46 (by decide) ?_
              refine lv_istore_n (lv' := [(3, .int 1), (2, .int y_1), (0, .ref tk), (1, .int i0)]) hx hb dX7_readSign_50 rfl hl (by decide) rfl (fun ls hl => ?_)
              refine lv_aload_n hx hb dX7_readSign_51 rfl (lv_at hl 2 rfl) ?_
              refine lv_iload_n hx hb dX7_readSign_52 rfl (lv_at hl 0 rfl) ?_
              refine lv_if_eq (tgt := 60) hx hb dX7_readSign_53 (by decide) (fun h9 => absurd h9 (by decide)) (fun _ => ?_)
              refine lv_iconst (v := 2) hx hb dX7_readSign_56 (by decide) ?_
              refine lv_goto (tgt := 61) hx hb dX7_readSign_57 (by decide) ?_
              refine va_put (D := D) (ci := 7) (v := .int 2) (ty := tyX7 3) (C := RX7) (T := TX7) (N := 10) hx hb hts hiX7 tyX7 tyX7_ok nmX7 hown hK hP hD hS 0 rfl rfl 3 (by decide) (hts _ (List.mem_of_getElem? (i := 2) rfl)) (fun _ h9 => h9) rfl (tyX7_ok 3 (by decide)) rfl rfl (Nat.le_of_ble_eq_true rfl) dX7_readSign_61 (fun H locs hP hD hS => ?_)
              have hP : va_P D vwCl [(tk, .inr (7, [.ref ta, .int tkm, .int tkb, .int 2, .int tka, .int tkv, .long tkc, .ref (ad 0), .int tkf, .int tkg])), (ta, .inr (6, [.ref tab, .int tan])), (tab, .inl (tabt, 940, .inl tabf))] H := hP
              have hD : va_D A [(tk, .inr (7, [.ref ta, .int tkm, .int tkb, .int 2, .int tka, .int tkv, .long tkc, .ref (ad 0), .int tkf, .int tkg])), (ta, .inr (6, [.ref tab, .int tan])), (tab, .inl (tabt, 940, .inl tabf))] := hD
              refine lv_aload_n hx hb dX7_readSign_64 rfl (lv_at hl 2 rfl) ?_
              refine lv_iload_n hx hb dX7_readSign_65 rfl (lv_at hl 1 rfl) ?_
              refine va_put (D := D) (ci := 7) (v := .int y_1) (ty := tyX7 5) (C := RX7) (T := TX7) (N := 10) hx hb hts hiX7 tyX7 tyX7_ok nmX7 hown hK hP hD hS 0 rfl rfl 5 (by decide) (hts _ (List.mem_of_getElem? (i := 3) rfl)) (fun _ h9 => h9) rfl (tyX7_ok 5 (by decide)) rfl rfl (Nat.le_of_ble_eq_true rfl) dX7_readSign_66 (fun H locs hP hD hS => ?_)
              have hP : va_P D vwCl [(tk, .inr (7, [.ref ta, .int tkm, .int tkb, .int 2, .int tka, .int y_1, .long tkc, .ref (ad 0), .int tkf, .int tkg])), (ta, .inr (6, [.ref tab, .int tan])), (tab, .inl (tabt, 940, .inl tabf))] H := hP
              have hD : va_D A [(tk, .inr (7, [.ref ta, .int tkm, .int tkb, .int 2, .int tka, .int y_1, .long tkc, .ref (ad 0), .int tkf, .int tkg])), (ta, .inr (6, [.ref tab, .int tan])), (tab, .inl (tabt, 940, .inl tabf))] := hD
              refine lv_aload_n hx hb dX7_readSign_69 rfl (lv_at hl 2 rfl) ?_
              refine lv_iload_n hx hb dX7_readSign_70 rfl (lv_at hl 3 rfl) ?_
              refine va_put (D := D) (ci := 7) (v := .int i0) (ty := tyX7 4) (C := RX7) (T := TX7) (N := 10) hx hb hts hiX7 tyX7 tyX7_ok nmX7 hown hK hP hD hS 0 rfl rfl 4 (by decide) (hts _ (List.mem_of_getElem? (i := 4) rfl)) (fun _ h9 => h9) rfl (tyX7_ok 4 (by decide)) rfl rfl (Nat.le_of_ble_eq_true rfl) dX7_readSign_71 (fun H locs hP hD hS => ?_)
              have hP : va_P D vwCl [(tk, .inr (7, [.ref ta, .int tkm, .int tkb, .int 2, .int i0, .int y_1, .long tkc, .ref (ad 0), .int tkf, .int tkg])), (ta, .inr (6, [.ref tab, .int tan])), (tab, .inl (tabt, 940, .inl tabf))] H := hP
              have hD : va_D A [(tk, .inr (7, [.ref ta, .int tkm, .int tkb, .int 2, .int i0, .int y_1, .long tkc, .ref (ad 0), .int tkf, .int tkg])), (ta, .inr (6, [.ref tab, .int tan])), (tab, .inl (tabt, 940, .inl tabf))] := hD
              refine lv_aload_n hx hb dX7_readSign_74 rfl (lv_at hl 2 rfl) ?_
              refine lv_iload_n hx hb dX7_readSign_75 rfl (lv_at hl 3 rfl) ?_
              refine lv_iconst (v := 1) hx hb dX7_readSign_76 (by decide) ?_
              refine lv_iadd hx hb dX7_readSign_77 ?_
              refine lv_topi (fun y_42 ey_42 => ?_)
              have h_43 : z_in 1 940 y_42 := by rw [ey_42]; exact z_add hi0 (z_lit (x := 1) (a := 1) (b := 1) rfl) rfl rfl
              have ty_42 : y_42.toInt = i0.toInt + 1 := by rw [ey_42]; exact (z_addT hi0 (z_lit (x := 1) (a := 1) (b := 1) rfl) rfl).trans rfl
              refine va_put (D := D) (ci := 7) (v := .int y_42) (ty := tyX7 2) (C := RX7) (T := TX7) (N := 10) hx hb hts hiX7 tyX7 tyX7_ok nmX7 hown hK hP hD hS 0 rfl rfl 2 (by decide) (hts _ (List.mem_of_getElem? (i := 5) rfl)) (fun _ h9 => h9) rfl (tyX7_ok 2 (by decide)) rfl rfl (Nat.le_of_ble_eq_true rfl) dX7_readSign_78 (fun H locs hP hD hS => ?_)
              have hP : va_P D vwCl [(tk, .inr (7, [.ref ta, .int tkm, .int y_42, .int 2, .int i0, .int y_1, .long tkc, .ref (ad 0), .int tkf, .int tkg])), (ta, .inr (6, [.ref tab, .int tan])), (tab, .inl (tabt, 940, .inl tabf))] H := hP
              have hD : va_D A [(tk, .inr (7, [.ref ta, .int tkm, .int y_42, .int 2, .int i0, .int y_1, .long tkc, .ref (ad 0), .int tkf, .int tkg])), (ta, .inr (6, [.ref tab, .int tan])), (tab, .inl (tabt, 940, .inl tabf))] := hD
              exact hret ([(tk, .inr (7, [.ref ta, .int tkm, .int y_42, .int 2, .int i0, .int y_1, .long tkc, .ref (ad 0), .int tkf, .int tkg])), (ta, .inr (6, [.ref tab, .int tan])), (tab, .inl (tabt, 940, .inl tabf))], []) _ _ _ _ dX7_readSign_81 ⟨y_42, 2, i0, y_1, (z_w (c := 0) (d := 940) h_43 rfl), (z_w (c := 0) (d := 4) (z_lit (x := 2) (a := 2) (b := 2) rfl) rfl), (z_rsT h_5 ty_42 (z_sgn6 (z_eqk h_40 rfl))), (show z_sz i0 i0 from rfl), rfl⟩ hP (hK.sub [] rfl) hD hS

set_option maxHeartbeats 8000000 in
set_option maxRecDepth 100000 in
theorem w_Tokens_advance (l : Launch) (D : va_G) (ad : Nat → Nat) (tk : Nat) (tkm : Int32) (tkb : Int32) (tkk : Int32) (tka : Int32) (tkv : Int32) (tkc : Int64) (tkf : Int32) (tkg : Int32) (tkw : Nat) (ta : Nat) (tan : Int32) (tab : Nat) (tabt : ClassId) (tabf : Nat → Int32) (htkm : z_in 0 940 tkm) (htkb : z_in 0 940 tkb) (htkk : z_in 0 4 tkk) (htkw : tkw < 22) (htan : z_in 0 940 tan) (httk : z_tk tkk tkw) : z_Mv l yX7_advance wsX7_advance { frames := 2, cells := 0, slots := 0, locals := 45 } D ad [.ref tk] [(tk, .inr (7, [.ref ta, .int tkm, .int tkb, .int tkk, .int tka, .int tkv, .long tkc, .ref (ad tkw), .int tkf, .int tkg])), (ta, .inr (6, [.ref tab, .int tan])), (tab, .inl (tabt, 940, .inl tabf))] [(tabt, .byte)] 0 0 (fun u9 => ∃ (x0_2 : Int32) (x0_3 : Int32) (x0_4 : Int32) (x0_5 : Int32) (x0_6 : Int64) (x0_7 : Nat), z_in 0 940 x0_2 ∧ z_in 0 4 x0_3 ∧ x0_7 < 22 ∧ z_tk x0_3 x0_7 ∧ z_ctk z_cds tabf tan tkm x0_3 x0_4 x0_5 x0_6 x0_7 x0_2 ∧ z_TX tabf tan tkm tkb x0_4 ∧ u9 = ([(tk, .inr (7, [.ref ta, .int tkm, .int x0_2, .int x0_3, .int x0_4, .int x0_5, .long x0_6, .ref (ad x0_7), .int tkf, .int tkg])), (ta, .inr (6, [.ref tab, .int tan])), (tab, .inl (tabt, 940, .inl tabf))], [])) := by
  refine z_ofV (cc := cX7_advance) (maxL := 2) (by decide) rfl (Nat.le_of_ble_eq_true rfl) ?_
  intro p e s m below meth c Q A ls hx hb hml hown hts hin hK hP hD hA hE hO hS hl hret
  have hown : s.vm.findClass RX7 = some m.cls := hown
  have hiX7 : ∀ w ∈ wsX70, w ∈ wsX7_advance := fun _ h9 => List.mem_cons_of_mem _ (List.mem_append_left _ (List.mem_append_right _ h9))
  have hiX6 : ∀ w ∈ wsX60, w ∈ wsX7_advance := fun _ h9 => List.mem_cons_of_mem _ (List.mem_append_right _ h9)
  have hl : lv_has ls 2 [(0, .ref tk)] := hl
  refine lv_aload_n hx hb dX7_advance_0 rfl (lv_at hl 0 rfl) ?_
  refine va_get (D := D) (ci := 7) (v := .int tkb) (C := RX7) (T := TX7) (N := 10) hx hb hts hiX7 hown hK hP 0 rfl rfl 2 (by decide) (hts _ (List.mem_of_getElem? (i := 1) rfl)) (fun _ h9 => h9) rfl dX7_advance_1 ?_
  refine lv_istore_n (lv' := [(1, .int tkb), (0, .ref tk)]) hx hb dX7_advance_4 rfl hl (by decide) rfl (fun ls hl => ?_)
  have LP1 : ∀ (n : Nat) (v1_1 : Int32) (H : Heap) (locs : List Loc) (ls : Array Slot), z_in 0 940 v1_1 → z_sk tabf tan tkb v1_1 → 941 - v1_1.toInt ≤ (n : Int) → va_P D vwCl [(tk, .inr (7, [.ref ta, .int tkm, .int tkb, .int tkk, .int tka, .int tkv, .long tkc, .ref (ad tkw), .int tkf, .int tkg])), (ta, .inr (6, [.ref tab, .int tan])), (tab, .inl (tabt, 940, .inl tabf))] H → va_D A [(tk, .inr (7, [.ref ta, .int tkm, .int tkb, .int tkk, .int tka, .int tkv, .long tkc, .ref (ad tkw), .int tkf, .int tkg])), (ta, .inr (6, [.ref tab, .int tan])), (tab, .inl (tabt, 940, .inl tabf))] → va_S A s.heap H locs → lv_has ls 2 [(1, .int v1_1), (0, .ref tk)] → W p l e ({ frames := 2, cells := 0, slots := 0, locals := 45 }) s m ([.ref tk] : List Value).toArray below meth c H locs 0 0 Q (F0 m 5 ls []) := by
    intro n
    induction n with
    | zero => intro v1_1 H locs ls hv1_1 hI1_1 hn1; exact absurd hn1 (by have q1 := hv1_1.1; have q2 := hv1_1.2; omega)
    | succ n ih1 =>
      intro v1_1 H locs ls hv1_1 hI1_1 hn1 hP hD hS hl
      have q1 := hv1_1.1
      have q1' := hv1_1.2
      refine lv_iload_n hx hb dX7_advance_5 rfl (lv_at hl 0 rfl) ?_
      refine lv_aload_n hx hb dX7_advance_6 rfl (lv_at hl 1 rfl) ?_
      refine va_get (D := D) (ci := 7) (v := .ref ta) (C := RX7) (T := TX7) (N := 10) hx hb hts hiX7 hown hK hP 0 rfl rfl 0 (by decide) (hts _ (List.mem_of_getElem? (i := 2) rfl)) (fun _ h9 => h9) rfl dX7_advance_7 ?_
      refine va_get (D := D) (ci := 6) (v := .int tan) (C := RX6) (T := TX6) (N := 2) hx hb hts hiX6 hown hK hP 1 rfl rfl 1 (by decide) (hts _ (List.mem_of_getElem? (i := 3) rfl)) (fun _ h9 => h9) rfl dX7_advance_10 ?_
      refine lv_icmp_ge (tgt := 36) hx hb dX7_advance_13 (by decide) (fun c_1 => ?_) (fun c_1 => ?_)
      · skip
        refine lv_aload_n hx hb dX7_advance_36 rfl (lv_at hl 1 rfl) ?_
        refine va_gets (v := .ref (ad 0)) hx hb (hE.1.1 0 (by decide)).1 hS hown (hts _ (List.mem_of_getElem? (i := 4) rfl)) (fun _ h9 => h9) dX7_advance_37 ?_
        refine va_put (D := D) (ci := 7) (v := .ref (ad 0)) (ty := tyX7 7) (C := RX7) (T := TX7) (N := 10) hx hb hts hiX7 tyX7 tyX7_ok nmX7 hown hK hP hD hS 0 rfl rfl 7 (by decide) (hts _ (List.mem_of_getElem? (i := 5) rfl)) (fun _ h9 => h9) rfl (tyX7_ok 7 (by decide)) rfl rfl (Nat.le_of_ble_eq_true rfl) dX7_advance_40 (fun H locs hP hD hS => ?_)
        have hP : va_P D vwCl [(tk, .inr (7, [.ref ta, .int tkm, .int tkb, .int tkk, .int tka, .int tkv, .long tkc, .ref (ad 0), .int tkf, .int tkg])), (ta, .inr (6, [.ref tab, .int tan])), (tab, .inl (tabt, 940, .inl tabf))] H := hP
        have hD : va_D A [(tk, .inr (7, [.ref ta, .int tkm, .int tkb, .int tkk, .int tka, .int tkv, .long tkc, .ref (ad 0), .int tkf, .int tkg])), (ta, .inr (6, [.ref tab, .int tan])), (tab, .inl (tabt, 940, .inl tabf))] := hD
        refine lv_aload_n hx hb dX7_advance_43 rfl (lv_at hl 1 rfl) ?_
        refine lv_iconst (v := 0) hx hb dX7_advance_44 (by decide) ?_
        refine va_put (D := D) (ci := 7) (v := .int 0) (ty := tyX7 5) (C := RX7) (T := TX7) (N := 10) hx hb hts hiX7 tyX7 tyX7_ok nmX7 hown hK hP hD hS 0 rfl rfl 5 (by decide) (hts _ (List.mem_of_getElem? (i := 6) rfl)) (fun _ h9 => h9) rfl (tyX7_ok 5 (by decide)) rfl rfl (Nat.le_of_ble_eq_true rfl) dX7_advance_45 (fun H locs hP hD hS => ?_)
        have hP : va_P D vwCl [(tk, .inr (7, [.ref ta, .int tkm, .int tkb, .int tkk, .int tka, .int 0, .long tkc, .ref (ad 0), .int tkf, .int tkg])), (ta, .inr (6, [.ref tab, .int tan])), (tab, .inl (tabt, 940, .inl tabf))] H := hP
        have hD : va_D A [(tk, .inr (7, [.ref ta, .int tkm, .int tkb, .int tkk, .int tka, .int 0, .long tkc, .ref (ad 0), .int tkf, .int tkg])), (ta, .inr (6, [.ref tab, .int tan])), (tab, .inl (tabt, 940, .inl tabf))] := hD
        refine lv_aload_n hx hb dX7_advance_48 rfl (lv_at hl 1 rfl) ?_
        refine lv_lconst (v := 0) hx hb dX7_advance_49 (by decide) ?_
        refine va_put (D := D) (ci := 7) (v := .long 0) (ty := tyX7 6) (C := RX7) (T := TX7) (N := 10) hx hb hts hiX7 tyX7 tyX7_ok nmX7 hown hK hP hD hS 0 rfl rfl 6 (by decide) (hts _ (List.mem_of_getElem? (i := 7) rfl)) (fun _ h9 => h9) rfl (tyX7_ok 6 (by decide)) rfl rfl (Nat.le_of_ble_eq_true rfl) dX7_advance_50 (fun H locs hP hD hS => ?_)
        have hP : va_P D vwCl [(tk, .inr (7, [.ref ta, .int tkm, .int tkb, .int tkk, .int tka, .int 0, .long 0, .ref (ad 0), .int tkf, .int tkg])), (ta, .inr (6, [.ref tab, .int tan])), (tab, .inl (tabt, 940, .inl tabf))] H := hP
        have hD : va_D A [(tk, .inr (7, [.ref ta, .int tkm, .int tkb, .int tkk, .int tka, .int 0, .long 0, .ref (ad 0), .int tkf, .int tkg])), (ta, .inr (6, [.ref tab, .int tan])), (tab, .inl (tabt, 940, .inl tabf))] := hD
        refine lv_iload_n hx hb dX7_advance_53 rfl (lv_at hl 0 rfl) ?_
        refine lv_aload_n hx hb dX7_advance_54 rfl (lv_at hl 1 rfl) ?_
        refine va_get (D := D) (ci := 7) (v := .ref ta) (C := RX7) (T := TX7) (N := 10) hx hb hts hiX7 hown hK hP 0 rfl rfl 0 (by decide) (hts _ (List.mem_of_getElem? (i := 2) rfl)) (fun _ h9 => h9) rfl dX7_advance_55 ?_
        refine va_get (D := D) (ci := 6) (v := .int tan) (C := RX6) (T := TX6) (N := 2) hx hb hts hiX6 hown hK hP 1 rfl rfl 1 (by decide) (hts _ (List.mem_of_getElem? (i := 3) rfl)) (fun _ h9 => h9) rfl dX7_advance_58 ?_
        refine lv_icmp_ge (tgt := 72) hx hb dX7_advance_61 (by decide) (fun c_2 => ?_) (fun c_2 => ?_)
        · skip
          refine lv_aload_n hx hb dX7_advance_72 rfl (lv_at hl 1 rfl) ?_
          have hc9 := (w_Tokens_stop l D ad tk tkm tkb tkk tka 0 0 tkf tkg ta tan tab tabt tabf htkm htkb htkk htan)
          refine z_callv (w0 := [(tk, .inr (7, [.ref ta, .int tkm, .int tkb, .int tkk, .int tka, .int 0, .long 0, .ref (ad 0), .int tkf, .int tkg])), (ta, .inr (6, [.ref tab, .int tan])), (tab, .inl (tabt, 940, .inl tabf))]) (wr := []) (va_runV (As := []) (rest := []) ⟨hx, hb, hml, hown, hts⟩ (hc9 _) (cwV 0 hts gX7_advance_X7_stop rfl rfl rfl (by decide +kernel) ⟨Nat.le_of_ble_eq_true rfl, Nat.le_of_ble_eq_true rfl⟩) (z_preV hP hD hK hS hA hE hO [0, 1, 2] [0] rfl (by decide +kernel) rfl 0 7 rfl rfl rfl) rfl rfl hl.1 rfl (lv_room (Nat.le_of_ble_eq_true rfl)) dX7_advance_73 ⟨Nat.le_of_ble_eq_true rfl, Nat.le_of_ble_eq_true rfl⟩) hP hD hK hS hA [0, 1, 2] [] rfl rfl (by decide +kernel) (by decide +kernel) (fun u9 H locs hw hP hD hK hS => ?_)
          refine z_ex3 hw (fun x_3 x_5 x_7 hw => ?_)
          refine z_an3 hw (fun h_4 h_6 h_8 hw => ?_)
          subst hw
          have hP : va_P D vwCl [(tk, .inr (7, [.ref ta, .int tkm, .int x_3, .int x_5, .int x_7, .int 0, .long 0, .ref (ad 0), .int tkf, .int tkg])), (ta, .inr (6, [.ref tab, .int tan])), (tab, .inl (tabt, 940, .inl tabf))] H := hP
          have hD : va_D A [(tk, .inr (7, [.ref ta, .int tkm, .int x_3, .int x_5, .int x_7, .int 0, .long 0, .ref (ad 0), .int tkf, .int tkg])), (ta, .inr (6, [.ref tab, .int tan])), (tab, .inl (tabt, 940, .inl tabf))] := hD
          have hK : va_K D vwCl [(tabt, .byte)] s := hK
          refine W.cs (cells' := 0) (slots' := 0) rfl rfl ?_
          refine lv_goto (tgt := 120) hx hb dX7_advance_76 (by decide) ?_
          exact hret ([(tk, .inr (7, [.ref ta, .int tkm, .int x_3, .int x_5, .int x_7, .int 0, .long 0, .ref (ad 0), .int tkf, .int tkg])), (ta, .inr (6, [.ref tab, .int tan])), (tab, .inl (tabt, 940, .inl tabf))], []) _ _ _ _ dX7_advance_120 ⟨x_3, x_5, x_7, 0, 0, 0, h_4, h_6, (by decide), (z_tk0 x_5), (z_ctkS h_8 htan htkm), (z_TxSt hI1_1 (z_sxT c_2) c_2 h_8 htan htkm), rfl⟩ hP (hK.sub [] rfl) hD hS
        · skip
          have h_9 : z_in 0 939 v1_1 := z_ltL (Int32.not_le.mp c_2) hv1_1 htan rfl
          have h_10 : z_in 1 940 tan := z_ltR (Int32.not_le.mp c_2) hv1_1 htan rfl
          refine lv_iload_n hx hb dX7_advance_64 rfl (lv_at hl 0 rfl) ?_
          refine lv_aload_n hx hb dX7_advance_65 rfl (lv_at hl 1 rfl) ?_
          refine va_get (D := D) (ci := 7) (v := .int tkm) (C := RX7) (T := TX7) (N := 10) hx hb hts hiX7 hown hK hP 0 rfl rfl 1 (by decide) (hts _ (List.mem_of_getElem? (i := 8) rfl)) (fun _ h9 => h9) rfl dX7_advance_66 ?_
          refine lv_icmp_lt (tgt := 79) hx hb dX7_advance_69 (by decide) (fun c_11 => ?_) (fun c_11 => ?_)
          · skip
            have h_12 : z_in 1 940 tkm := z_ltR c_11 h_9 htkm rfl
            refine lv_aload_n hx hb dX7_advance_79 rfl (lv_at hl 1 rfl) ?_
            refine va_get (D := D) (ci := 7) (v := .ref ta) (C := RX7) (T := TX7) (N := 10) hx hb hts hiX7 hown hK hP 0 rfl rfl 0 (by decide) (hts _ (List.mem_of_getElem? (i := 2) rfl)) (fun _ h9 => h9) rfl dX7_advance_80 ?_
            refine lv_iload_n hx hb dX7_advance_83 rfl (lv_at hl 0 rfl) ?_
            have hc9 := (w_Tape940_get l D ad ta tan tab tabt tabf v1_1 (z_w (c := 0) (d := 940) h_10 rfl))
            refine z_calli (w0 := [(ta, .inr (6, [.ref tab, .int tan])), (tab, .inl (tabt, 940, .inl tabf))]) (wr := [(tk, .inr (7, [.ref ta, .int tkm, .int tkb, .int tkk, .int tka, .int 0, .long 0, .ref (ad 0), .int tkf, .int tkg]))]) (va_runV (As := [.int v1_1]) (rest := []) ⟨hx, hb, hml, hown, hts⟩ (hc9 _) (cwV 1 hts gX7_advance_X6_get rfl rfl rfl (by decide +kernel) ⟨Nat.le_of_ble_eq_true rfl, Nat.le_of_ble_eq_true rfl⟩) (z_preV hP hD hK hS hA hE hO [1, 2] [0] rfl (by decide +kernel) rfl 1 6 rfl rfl rfl) rfl rfl hl.1 rfl (lv_room (Nat.le_of_ble_eq_true rfl)) dX7_advance_84 ⟨Nat.le_of_ble_eq_true rfl, Nat.le_of_ble_eq_true rfl⟩) hP hD hK hS hA [1, 2] [0] rfl rfl (by decide +kernel) (by decide +kernel) (fun y_13 u9 H locs hw hP hD hK hS => ?_)
            obtain ⟨h_14, h_15, h_16, h_17, rfl⟩ := hw
            have hP : va_P D vwCl [(tk, .inr (7, [.ref ta, .int tkm, .int tkb, .int tkk, .int tka, .int 0, .long 0, .ref (ad 0), .int tkf, .int tkg])), (ta, .inr (6, [.ref tab, .int tan])), (tab, .inl (tabt, 940, .inl tabf))] H := hP
            have hD : va_D A [(tk, .inr (7, [.ref ta, .int tkm, .int tkb, .int tkk, .int tka, .int 0, .long 0, .ref (ad 0), .int tkf, .int tkg])), (ta, .inr (6, [.ref tab, .int tan])), (tab, .inl (tabt, 940, .inl tabf))] := hD
            have hK : va_K D vwCl [(tabt, .byte)] s := hK
            refine W.cs (cells' := 0) (slots' := 0) rfl rfl ?_
            refine W.eq (g2 := F0 m 87 ls (.int y_13 :: [])) rfl ?_
            have hc9 := (w_Tokens_isLetter l D ad y_13 )
            refine z_calli (w0 := []) (wr := [(tk, .inr (7, [.ref ta, .int tkm, .int tkb, .int tkk, .int tka, .int 0, .long 0, .ref (ad 0), .int tkf, .int tkg])), (ta, .inr (6, [.ref tab, .int tan])), (tab, .inl (tabt, 940, .inl tabf))]) (va_runS (As := [.int y_13]) (rest := []) ⟨hx, hb, hml, hown, hts⟩ (hc9 _) (va_cwS 1 hts gX7_advance_X7_isLetter rfl rfl rfl (by decide +kernel) ⟨Nat.le_of_ble_eq_true rfl, Nat.le_of_ble_eq_true rfl⟩) (z_preS hP hD hK hS hA hE hO [] [] rfl (by decide +kernel) rfl) rfl rfl hl.1 rfl (lv_room (Nat.le_of_ble_eq_true rfl)) dX7_advance_87 ⟨Nat.le_of_ble_eq_true rfl, Nat.le_of_ble_eq_true rfl⟩) hP hD hK hS hA [] [0, 1, 2] rfl rfl (by decide +kernel) (by decide +kernel) (fun y_18 u9 H locs hw hP hD hK hS => ?_)
            obtain ⟨h_19, h_20, h_21, rfl⟩ := hw
            have hP : va_P D vwCl [(tk, .inr (7, [.ref ta, .int tkm, .int tkb, .int tkk, .int tka, .int 0, .long 0, .ref (ad 0), .int tkf, .int tkg])), (ta, .inr (6, [.ref tab, .int tan])), (tab, .inl (tabt, 940, .inl tabf))] H := hP
            have hD : va_D A [(tk, .inr (7, [.ref ta, .int tkm, .int tkb, .int tkk, .int tka, .int 0, .long 0, .ref (ad 0), .int tkf, .int tkg])), (ta, .inr (6, [.ref tab, .int tan])), (tab, .inl (tabt, 940, .inl tabf))] := hD
            have hK : va_K D vwCl [(tabt, .byte)] s := hK
            refine W.cs (cells' := 0) (slots' := 0) rfl rfl ?_
            refine W.eq (g2 := F0 m 90 ls (.int y_18 :: [])) rfl ?_
            refine lv_if_ne (tgt := 107) hx hb dX7_advance_90 (by decide) (fun c_22 => ?_) (fun c_22 => ?_)
            · skip
              have h_23 : z_in 1 1 y_18 := z_neLo c_22 h_19 (z_lit (x := 0) (a := 0) (b := 0) rfl) rfl
              have h_24 : z_in 97 122 y_13 := z_both h_14 (h_20 (z_eqk h_23 rfl)) rfl
              refine lv_aload_n hx hb dX7_advance_107 rfl (lv_at hl 1 rfl) ?_
              refine lv_iload_n hx hb dX7_advance_108 rfl (lv_at hl 0 rfl) ?_
              have hc9 := (w_Tokens_readRun l D ad tk tkm tkb tkk tka 0 0 tkf tkg ta tan tab tabt tabf v1_1 (z_w (c := 0) (d := 940) h_12 rfl) htkb htkk (z_w (c := 0) (d := 940) h_10 rfl) h_9 (show z_z0 0 from rfl) (show z_y0 0 from rfl) (z_paL (z_w (c := 0) (d := 940) h_9 rfl) (Int32.not_le.mp c_2) h_21 (z_eqk h_23 rfl) h_17) (z_lt9I (Int32.not_le.mp c_2)))
              refine z_callv (w0 := [(tk, .inr (7, [.ref ta, .int tkm, .int tkb, .int tkk, .int tka, .int 0, .long 0, .ref (ad 0), .int tkf, .int tkg])), (ta, .inr (6, [.ref tab, .int tan])), (tab, .inl (tabt, 940, .inl tabf))]) (wr := []) (va_runV (As := [.int v1_1]) (rest := []) ⟨hx, hb, hml, hown, hts⟩ (hc9 _) (cwV 1 hts gX7_advance_X7_readRun rfl rfl rfl (by decide +kernel) ⟨Nat.le_of_ble_eq_true rfl, Nat.le_of_ble_eq_true rfl⟩) (z_preV hP hD hK hS hA hE hO [0, 1, 2] [0] rfl (by decide +kernel) rfl 0 7 rfl rfl rfl) rfl rfl hl.1 rfl (lv_room (Nat.le_of_ble_eq_true rfl)) dX7_advance_109 ⟨Nat.le_of_ble_eq_true rfl, Nat.le_of_ble_eq_true rfl⟩) hP hD hK hS hA [0, 1, 2] [] rfl rfl (by decide +kernel) (by decide +kernel) (fun u9 H locs hw hP hD hK hS => ?_)
              refine z_ex6 hw (fun x_25 x_27 x_29 x_30 f_31 f_32 hw => ?_)
              refine z_an6 hw (fun h_26 h_28 h_33 h_34 h_35 h_36 hw => ?_)
              subst hw
              have hP : va_P D vwCl [(tk, .inr (7, [.ref ta, .int tkm, .int x_25, .int x_27, .int x_29, .int x_30, .long f_31, .ref (ad f_32), .int tkf, .int tkg])), (ta, .inr (6, [.ref tab, .int tan])), (tab, .inl (tabt, 940, .inl tabf))] H := hP
              have hD : va_D A [(tk, .inr (7, [.ref ta, .int tkm, .int x_25, .int x_27, .int x_29, .int x_30, .long f_31, .ref (ad f_32), .int tkf, .int tkg])), (ta, .inr (6, [.ref tab, .int tan])), (tab, .inl (tabt, 940, .inl tabf))] := hD
              have hK : va_K D vwCl [(tabt, .byte)] s := hK
              refine W.cs (cells' := 0) (slots' := 0) rfl rfl ?_
              refine lv_goto (tgt := 120) hx hb dX7_advance_112 (by decide) ?_
              exact hret ([(tk, .inr (7, [.ref ta, .int tkm, .int x_25, .int x_27, .int x_29, .int x_30, .long f_31, .ref (ad f_32), .int tkf, .int tkg])), (ta, .inr (6, [.ref tab, .int tan])), (tab, .inl (tabt, 940, .inl tabf))], []) _ _ _ _ dX7_advance_120 ⟨x_25, x_27, x_29, x_30, f_31, f_32, h_26, h_28, h_33, h_34, (z_ctR h_35 (Int32.not_le.mp c_2) c_11 h_36), (z_TxI hI1_1 (z_sxT c_1) (Int32.not_le.mp c_2) c_11 h_36), rfl⟩ hP (hK.sub [] rfl) hD hS
            · skip
              have h_37 : z_in 0 0 y_18 := z_leL (Int32.le_of_eq c_22) h_19 (z_lit (x := 0) (a := 0) (b := 0) rfl) rfl
              refine lv_aload_n hx hb dX7_advance_93 rfl (lv_at hl 1 rfl) ?_
              refine va_get (D := D) (ci := 7) (v := .ref ta) (C := RX7) (T := TX7) (N := 10) hx hb hts hiX7 hown hK hP 0 rfl rfl 0 (by decide) (hts _ (List.mem_of_getElem? (i := 2) rfl)) (fun _ h9 => h9) rfl dX7_advance_94 ?_
              refine lv_iload_n hx hb dX7_advance_97 rfl (lv_at hl 0 rfl) ?_
              have hc9 := (w_Tape940_get l D ad ta tan tab tabt tabf v1_1 (z_w (c := 0) (d := 940) h_10 rfl))
              refine z_calli (w0 := [(ta, .inr (6, [.ref tab, .int tan])), (tab, .inl (tabt, 940, .inl tabf))]) (wr := [(tk, .inr (7, [.ref ta, .int tkm, .int tkb, .int tkk, .int tka, .int 0, .long 0, .ref (ad 0), .int tkf, .int tkg]))]) (va_runV (As := [.int v1_1]) (rest := []) ⟨hx, hb, hml, hown, hts⟩ (hc9 _) (cwV 1 hts gX7_advance_X6_get rfl rfl rfl (by decide +kernel) ⟨Nat.le_of_ble_eq_true rfl, Nat.le_of_ble_eq_true rfl⟩) (z_preV hP hD hK hS hA hE hO [1, 2] [0] rfl (by decide +kernel) rfl 1 6 rfl rfl rfl) rfl rfl hl.1 rfl (lv_room (Nat.le_of_ble_eq_true rfl)) dX7_advance_98 ⟨Nat.le_of_ble_eq_true rfl, Nat.le_of_ble_eq_true rfl⟩) hP hD hK hS hA [1, 2] [0] rfl rfl (by decide +kernel) (by decide +kernel) (fun y_38 u9 H locs hw hP hD hK hS => ?_)
              obtain ⟨h_39, h_40, h_41, h_42, rfl⟩ := hw
              have hP : va_P D vwCl [(tk, .inr (7, [.ref ta, .int tkm, .int tkb, .int tkk, .int tka, .int 0, .long 0, .ref (ad 0), .int tkf, .int tkg])), (ta, .inr (6, [.ref tab, .int tan])), (tab, .inl (tabt, 940, .inl tabf))] H := hP
              have hD : va_D A [(tk, .inr (7, [.ref ta, .int tkm, .int tkb, .int tkk, .int tka, .int 0, .long 0, .ref (ad 0), .int tkf, .int tkg])), (ta, .inr (6, [.ref tab, .int tan])), (tab, .inl (tabt, 940, .inl tabf))] := hD
              have hK : va_K D vwCl [(tabt, .byte)] s := hK
              refine W.cs (cells' := 0) (slots' := 0) rfl rfl ?_
              refine W.eq (g2 := F0 m 101 ls (.int y_38 :: [])) rfl ?_
              have hc9 := (w_Tokens_isDigit l D ad y_38 )
              refine z_calli (w0 := []) (wr := [(tk, .inr (7, [.ref ta, .int tkm, .int tkb, .int tkk, .int tka, .int 0, .long 0, .ref (ad 0), .int tkf, .int tkg])), (ta, .inr (6, [.ref tab, .int tan])), (tab, .inl (tabt, 940, .inl tabf))]) (va_runS (As := [.int y_38]) (rest := []) ⟨hx, hb, hml, hown, hts⟩ (hc9 _) (va_cwS 1 hts gX7_advance_X7_isDigit rfl rfl rfl (by decide +kernel) ⟨Nat.le_of_ble_eq_true rfl, Nat.le_of_ble_eq_true rfl⟩) (z_preS hP hD hK hS hA hE hO [] [] rfl (by decide +kernel) rfl) rfl rfl hl.1 rfl (lv_room (Nat.le_of_ble_eq_true rfl)) dX7_advance_101 ⟨Nat.le_of_ble_eq_true rfl, Nat.le_of_ble_eq_true rfl⟩) hP hD hK hS hA [] [0, 1, 2] rfl rfl (by decide +kernel) (by decide +kernel) (fun y_43 u9 H locs hw hP hD hK hS => ?_)
              obtain ⟨h_44, h_45, h_46, rfl⟩ := hw
              have hP : va_P D vwCl [(tk, .inr (7, [.ref ta, .int tkm, .int tkb, .int tkk, .int tka, .int 0, .long 0, .ref (ad 0), .int tkf, .int tkg])), (ta, .inr (6, [.ref tab, .int tan])), (tab, .inl (tabt, 940, .inl tabf))] H := hP
              have hD : va_D A [(tk, .inr (7, [.ref ta, .int tkm, .int tkb, .int tkk, .int tka, .int 0, .long 0, .ref (ad 0), .int tkf, .int tkg])), (ta, .inr (6, [.ref tab, .int tan])), (tab, .inl (tabt, 940, .inl tabf))] := hD
              have hK : va_K D vwCl [(tabt, .byte)] s := hK
              refine W.cs (cells' := 0) (slots' := 0) rfl rfl ?_
              refine W.eq (g2 := F0 m 104 ls (.int y_43 :: [])) rfl ?_
              refine lv_if_eq (tgt := 115) hx hb dX7_advance_104 (by decide) (fun c_47 => ?_) (fun c_47 => ?_)
              · skip
                have h_48 : z_in 0 0 y_43 := z_leL (Int32.le_of_eq c_47) h_44 (z_lit (x := 0) (a := 0) (b := 0) rfl) rfl
                refine lv_aload_n hx hb dX7_advance_115 rfl (lv_at hl 1 rfl) ?_
                refine lv_iload_n hx hb dX7_advance_116 rfl (lv_at hl 0 rfl) ?_
                have hc9 := (w_Tokens_readSign l D ad tk tkm tkb tkk tka 0 0 tkf tkg ta tan tab tabt tabf v1_1 (z_w (c := 0) (d := 940) h_12 rfl) htkb htkk (z_w (c := 0) (d := 940) h_10 rfl) h_9)
                refine z_callv (w0 := [(tk, .inr (7, [.ref ta, .int tkm, .int tkb, .int tkk, .int tka, .int 0, .long 0, .ref (ad 0), .int tkf, .int tkg])), (ta, .inr (6, [.ref tab, .int tan])), (tab, .inl (tabt, 940, .inl tabf))]) (wr := []) (va_runV (As := [.int v1_1]) (rest := []) ⟨hx, hb, hml, hown, hts⟩ (hc9 _) (cwV 1 hts gX7_advance_X7_readSign rfl rfl rfl (by decide +kernel) ⟨Nat.le_of_ble_eq_true rfl, Nat.le_of_ble_eq_true rfl⟩) (z_preV hP hD hK hS hA hE hO [0, 1, 2] [0] rfl (by decide +kernel) rfl 0 7 rfl rfl rfl) rfl rfl hl.1 rfl (lv_room (Nat.le_of_ble_eq_true rfl)) dX7_advance_117 ⟨Nat.le_of_ble_eq_true rfl, Nat.le_of_ble_eq_true rfl⟩) hP hD hK hS hA [0, 1, 2] [] rfl rfl (by decide +kernel) (by decide +kernel) (fun u9 H locs hw hP hD hK hS => ?_)
                refine z_ex4 hw (fun x_49 x_51 x_53 x_54 hw => ?_)
                refine z_an4 hw (fun h_50 h_52 h_55 h_56 hw => ?_)
                subst hw
                have hP : va_P D vwCl [(tk, .inr (7, [.ref ta, .int tkm, .int x_49, .int x_51, .int x_53, .int x_54, .long 0, .ref (ad 0), .int tkf, .int tkg])), (ta, .inr (6, [.ref tab, .int tan])), (tab, .inl (tabt, 940, .inl tabf))] H := hP
                have hD : va_D A [(tk, .inr (7, [.ref ta, .int tkm, .int x_49, .int x_51, .int x_53, .int x_54, .long 0, .ref (ad 0), .int tkf, .int tkg])), (ta, .inr (6, [.ref tab, .int tan])), (tab, .inl (tabt, 940, .inl tabf))] := hD
                have hK : va_K D vwCl [(tabt, .byte)] s := hK
                refine W.cs (cells' := 0) (slots' := 0) rfl rfl ?_
                exact hret ([(tk, .inr (7, [.ref ta, .int tkm, .int x_49, .int x_51, .int x_53, .int x_54, .long 0, .ref (ad 0), .int tkf, .int tkg])), (ta, .inr (6, [.ref tab, .int tan])), (tab, .inl (tabt, 940, .inl tabf))], []) _ _ _ _ dX7_advance_120 ⟨x_49, x_51, x_53, x_54, 0, 0, h_50, h_52, (by decide), (z_tk0 x_51), (z_ctG h_55 (Int32.not_le.mp c_2) c_11 (z_w (c := 0) (d := 940) h_9 rfl) (z_pxT c_1) h_56), (z_TxI hI1_1 (z_sxT c_1) (Int32.not_le.mp c_2) c_11 h_56), rfl⟩ hP (hK.sub [] rfl) hD hS
              · skip
                have h_57 : z_in 1 1 y_43 := z_neLo c_47 h_44 (z_lit (x := 0) (a := 0) (b := 0) rfl) rfl
                have h_58 : z_in 48 57 y_38 := z_both h_39 (h_45 (z_eqk h_57 rfl)) rfl
                refine lv_aload_n hx hb dX7_advance_107 rfl (lv_at hl 1 rfl) ?_
                refine lv_iload_n hx hb dX7_advance_108 rfl (lv_at hl 0 rfl) ?_
                have hc9 := (w_Tokens_readRun l D ad tk tkm tkb tkk tka 0 0 tkf tkg ta tan tab tabt tabf v1_1 (z_w (c := 0) (d := 940) h_12 rfl) htkb htkk (z_w (c := 0) (d := 940) h_10 rfl) h_9 (show z_z0 0 from rfl) (show z_y0 0 from rfl) (z_paD (z_w (c := 0) (d := 940) h_9 rfl) (Int32.not_le.mp c_2) h_46 (z_eqk h_57 rfl) h_42) (z_lt9I (Int32.not_le.mp c_2)))
                refine z_callv (w0 := [(tk, .inr (7, [.ref ta, .int tkm, .int tkb, .int tkk, .int tka, .int 0, .long 0, .ref (ad 0), .int tkf, .int tkg])), (ta, .inr (6, [.ref tab, .int tan])), (tab, .inl (tabt, 940, .inl tabf))]) (wr := []) (va_runV (As := [.int v1_1]) (rest := []) ⟨hx, hb, hml, hown, hts⟩ (hc9 _) (cwV 1 hts gX7_advance_X7_readRun rfl rfl rfl (by decide +kernel) ⟨Nat.le_of_ble_eq_true rfl, Nat.le_of_ble_eq_true rfl⟩) (z_preV hP hD hK hS hA hE hO [0, 1, 2] [0] rfl (by decide +kernel) rfl 0 7 rfl rfl rfl) rfl rfl hl.1 rfl (lv_room (Nat.le_of_ble_eq_true rfl)) dX7_advance_109 ⟨Nat.le_of_ble_eq_true rfl, Nat.le_of_ble_eq_true rfl⟩) hP hD hK hS hA [0, 1, 2] [] rfl rfl (by decide +kernel) (by decide +kernel) (fun u9 H locs hw hP hD hK hS => ?_)
                refine z_ex6 hw (fun x_59 x_61 x_63 x_64 f_65 f_66 hw => ?_)
                refine z_an6 hw (fun h_60 h_62 h_67 h_68 h_69 h_70 hw => ?_)
                subst hw
                have hP : va_P D vwCl [(tk, .inr (7, [.ref ta, .int tkm, .int x_59, .int x_61, .int x_63, .int x_64, .long f_65, .ref (ad f_66), .int tkf, .int tkg])), (ta, .inr (6, [.ref tab, .int tan])), (tab, .inl (tabt, 940, .inl tabf))] H := hP
                have hD : va_D A [(tk, .inr (7, [.ref ta, .int tkm, .int x_59, .int x_61, .int x_63, .int x_64, .long f_65, .ref (ad f_66), .int tkf, .int tkg])), (ta, .inr (6, [.ref tab, .int tan])), (tab, .inl (tabt, 940, .inl tabf))] := hD
                have hK : va_K D vwCl [(tabt, .byte)] s := hK
                refine W.cs (cells' := 0) (slots' := 0) rfl rfl ?_
                refine lv_goto (tgt := 120) hx hb dX7_advance_112 (by decide) ?_
                exact hret ([(tk, .inr (7, [.ref ta, .int tkm, .int x_59, .int x_61, .int x_63, .int x_64, .long f_65, .ref (ad f_66), .int tkf, .int tkg])), (ta, .inr (6, [.ref tab, .int tan])), (tab, .inl (tabt, 940, .inl tabf))], []) _ _ _ _ dX7_advance_120 ⟨x_59, x_61, x_63, x_64, f_65, f_66, h_60, h_62, h_67, h_68, (z_ctR h_69 (Int32.not_le.mp c_2) c_11 h_70), (z_TxI hI1_1 (z_sxT c_1) (Int32.not_le.mp c_2) c_11 h_70), rfl⟩ hP (hK.sub [] rfl) hD hS
          · skip
            have h_71 : z_in 0 939 tkm := z_leL (Int32.not_lt.mp c_11) htkm h_9 rfl
            refine lv_aload_n hx hb dX7_advance_72 rfl (lv_at hl 1 rfl) ?_
            have hc9 := (w_Tokens_stop l D ad tk tkm tkb tkk tka 0 0 tkf tkg ta tan tab tabt tabf (z_w (c := 0) (d := 940) h_71 rfl) htkb htkk (z_w (c := 0) (d := 940) h_10 rfl))
            refine z_callv (w0 := [(tk, .inr (7, [.ref ta, .int tkm, .int tkb, .int tkk, .int tka, .int 0, .long 0, .ref (ad 0), .int tkf, .int tkg])), (ta, .inr (6, [.ref tab, .int tan])), (tab, .inl (tabt, 940, .inl tabf))]) (wr := []) (va_runV (As := []) (rest := []) ⟨hx, hb, hml, hown, hts⟩ (hc9 _) (cwV 0 hts gX7_advance_X7_stop rfl rfl rfl (by decide +kernel) ⟨Nat.le_of_ble_eq_true rfl, Nat.le_of_ble_eq_true rfl⟩) (z_preV hP hD hK hS hA hE hO [0, 1, 2] [0] rfl (by decide +kernel) rfl 0 7 rfl rfl rfl) rfl rfl hl.1 rfl (lv_room (Nat.le_of_ble_eq_true rfl)) dX7_advance_73 ⟨Nat.le_of_ble_eq_true rfl, Nat.le_of_ble_eq_true rfl⟩) hP hD hK hS hA [0, 1, 2] [] rfl rfl (by decide +kernel) (by decide +kernel) (fun u9 H locs hw hP hD hK hS => ?_)
            refine z_ex3 hw (fun x_72 x_74 x_76 hw => ?_)
            refine z_an3 hw (fun h_73 h_75 h_77 hw => ?_)
            subst hw
            have hP : va_P D vwCl [(tk, .inr (7, [.ref ta, .int tkm, .int x_72, .int x_74, .int x_76, .int 0, .long 0, .ref (ad 0), .int tkf, .int tkg])), (ta, .inr (6, [.ref tab, .int tan])), (tab, .inl (tabt, 940, .inl tabf))] H := hP
            have hD : va_D A [(tk, .inr (7, [.ref ta, .int tkm, .int x_72, .int x_74, .int x_76, .int 0, .long 0, .ref (ad 0), .int tkf, .int tkg])), (ta, .inr (6, [.ref tab, .int tan])), (tab, .inl (tabt, 940, .inl tabf))] := hD
            have hK : va_K D vwCl [(tabt, .byte)] s := hK
            refine W.cs (cells' := 0) (slots' := 0) rfl rfl ?_
            refine lv_goto (tgt := 120) hx hb dX7_advance_76 (by decide) ?_
            exact hret ([(tk, .inr (7, [.ref ta, .int tkm, .int x_72, .int x_74, .int x_76, .int 0, .long 0, .ref (ad 0), .int tkf, .int tkg])), (ta, .inr (6, [.ref tab, .int tan])), (tab, .inl (tabt, 940, .inl tabf))], []) _ _ _ _ dX7_advance_120 ⟨x_72, x_74, x_76, 0, 0, 0, h_73, h_75, (by decide), (z_tk0 x_74), (z_ctkS h_77 (z_w (c := 0) (d := 940) h_10 rfl) (z_w (c := 0) (d := 940) h_71 rfl)), (z_TxSt hI1_1 (z_sxT c_1) c_1 h_77 (z_w (c := 0) (d := 940) h_10 rfl) (z_w (c := 0) (d := 940) h_71 rfl)), rfl⟩ hP (hK.sub [] rfl) hD hS
      · skip
        have h_78 : z_in 0 939 v1_1 := z_ltL (Int32.not_le.mp c_1) hv1_1 htan rfl
        have h_79 : z_in 1 940 tan := z_ltR (Int32.not_le.mp c_1) hv1_1 htan rfl
        refine lv_aload_n hx hb dX7_advance_16 rfl (lv_at hl 1 rfl) ?_
        refine va_get (D := D) (ci := 7) (v := .ref ta) (C := RX7) (T := TX7) (N := 10) hx hb hts hiX7 hown hK hP 0 rfl rfl 0 (by decide) (hts _ (List.mem_of_getElem? (i := 2) rfl)) (fun _ h9 => h9) rfl dX7_advance_17 ?_
        refine lv_iload_n hx hb dX7_advance_20 rfl (lv_at hl 0 rfl) ?_
        have hc9 := (w_Tape940_get l D ad ta tan tab tabt tabf v1_1 (z_w (c := 0) (d := 940) h_79 rfl))
        refine z_calli (w0 := [(ta, .inr (6, [.ref tab, .int tan])), (tab, .inl (tabt, 940, .inl tabf))]) (wr := [(tk, .inr (7, [.ref ta, .int tkm, .int tkb, .int tkk, .int tka, .int tkv, .long tkc, .ref (ad tkw), .int tkf, .int tkg]))]) (va_runV (As := [.int v1_1]) (rest := []) ⟨hx, hb, hml, hown, hts⟩ (hc9 _) (cwV 1 hts gX7_advance_X6_get rfl rfl rfl (by decide +kernel) ⟨Nat.le_of_ble_eq_true rfl, Nat.le_of_ble_eq_true rfl⟩) (z_preV hP hD hK hS hA hE hO [1, 2] [0] rfl (by decide +kernel) rfl 1 6 rfl rfl rfl) rfl rfl hl.1 rfl (lv_room (Nat.le_of_ble_eq_true rfl)) dX7_advance_21 ⟨Nat.le_of_ble_eq_true rfl, Nat.le_of_ble_eq_true rfl⟩) hP hD hK hS hA [1, 2] [0] rfl rfl (by decide +kernel) (by decide +kernel) (fun y_80 u9 H locs hw hP hD hK hS => ?_)
        obtain ⟨h_81, h_82, h_83, h_84, rfl⟩ := hw
        have hP : va_P D vwCl [(tk, .inr (7, [.ref ta, .int tkm, .int tkb, .int tkk, .int tka, .int tkv, .long tkc, .ref (ad tkw), .int tkf, .int tkg])), (ta, .inr (6, [.ref tab, .int tan])), (tab, .inl (tabt, 940, .inl tabf))] H := hP
        have hD : va_D A [(tk, .inr (7, [.ref ta, .int tkm, .int tkb, .int tkk, .int tka, .int tkv, .long tkc, .ref (ad tkw), .int tkf, .int tkg])), (ta, .inr (6, [.ref tab, .int tan])), (tab, .inl (tabt, 940, .inl tabf))] := hD
        have hK : va_K D vwCl [(tabt, .byte)] s := hK
        refine W.cs (cells' := 0) (slots' := 0) rfl rfl ?_
        refine W.eq (g2 := F0 m 24 ls (.int y_80 :: [])) rfl ?_
        have hc9 := (w_Tokens_isBlank l D ad y_80 )
        refine z_calli (w0 := []) (wr := [(tk, .inr (7, [.ref ta, .int tkm, .int tkb, .int tkk, .int tka, .int tkv, .long tkc, .ref (ad tkw), .int tkf, .int tkg])), (ta, .inr (6, [.ref tab, .int tan])), (tab, .inl (tabt, 940, .inl tabf))]) (va_runS (As := [.int y_80]) (rest := []) ⟨hx, hb, hml, hown, hts⟩ (hc9 _) (va_cwS 1 hts gX7_advance_X7_isBlank rfl rfl rfl (by decide +kernel) ⟨Nat.le_of_ble_eq_true rfl, Nat.le_of_ble_eq_true rfl⟩) (z_preS hP hD hK hS hA hE hO [] [] rfl (by decide +kernel) rfl) rfl rfl hl.1 rfl (lv_room (Nat.le_of_ble_eq_true rfl)) dX7_advance_24 ⟨Nat.le_of_ble_eq_true rfl, Nat.le_of_ble_eq_true rfl⟩) hP hD hK hS hA [] [0, 1, 2] rfl rfl (by decide +kernel) (by decide +kernel) (fun y_85 u9 H locs hw hP hD hK hS => ?_)
        obtain ⟨h_86, h_87, h_88, rfl⟩ := hw
        have hP : va_P D vwCl [(tk, .inr (7, [.ref ta, .int tkm, .int tkb, .int tkk, .int tka, .int tkv, .long tkc, .ref (ad tkw), .int tkf, .int tkg])), (ta, .inr (6, [.ref tab, .int tan])), (tab, .inl (tabt, 940, .inl tabf))] H := hP
        have hD : va_D A [(tk, .inr (7, [.ref ta, .int tkm, .int tkb, .int tkk, .int tka, .int tkv, .long tkc, .ref (ad tkw), .int tkf, .int tkg])), (ta, .inr (6, [.ref tab, .int tan])), (tab, .inl (tabt, 940, .inl tabf))] := hD
        have hK : va_K D vwCl [(tabt, .byte)] s := hK
        refine W.cs (cells' := 0) (slots' := 0) rfl rfl ?_
        refine W.eq (g2 := F0 m 27 ls (.int y_85 :: [])) rfl ?_
        refine lv_if_eq (tgt := 36) hx hb dX7_advance_27 (by decide) (fun c_89 => ?_) (fun c_89 => ?_)
        · skip
          have h_90 : z_in 0 0 y_85 := z_leL (Int32.le_of_eq c_89) h_86 (z_lit (x := 0) (a := 0) (b := 0) rfl) rfl
          refine lv_aload_n hx hb dX7_advance_36 rfl (lv_at hl 1 rfl) ?_
          refine va_gets (v := .ref (ad 0)) hx hb (hE.1.1 0 (by decide)).1 hS hown (hts _ (List.mem_of_getElem? (i := 4) rfl)) (fun _ h9 => h9) dX7_advance_37 ?_
          refine va_put (D := D) (ci := 7) (v := .ref (ad 0)) (ty := tyX7 7) (C := RX7) (T := TX7) (N := 10) hx hb hts hiX7 tyX7 tyX7_ok nmX7 hown hK hP hD hS 0 rfl rfl 7 (by decide) (hts _ (List.mem_of_getElem? (i := 5) rfl)) (fun _ h9 => h9) rfl (tyX7_ok 7 (by decide)) rfl rfl (Nat.le_of_ble_eq_true rfl) dX7_advance_40 (fun H locs hP hD hS => ?_)
          have hP : va_P D vwCl [(tk, .inr (7, [.ref ta, .int tkm, .int tkb, .int tkk, .int tka, .int tkv, .long tkc, .ref (ad 0), .int tkf, .int tkg])), (ta, .inr (6, [.ref tab, .int tan])), (tab, .inl (tabt, 940, .inl tabf))] H := hP
          have hD : va_D A [(tk, .inr (7, [.ref ta, .int tkm, .int tkb, .int tkk, .int tka, .int tkv, .long tkc, .ref (ad 0), .int tkf, .int tkg])), (ta, .inr (6, [.ref tab, .int tan])), (tab, .inl (tabt, 940, .inl tabf))] := hD
          refine lv_aload_n hx hb dX7_advance_43 rfl (lv_at hl 1 rfl) ?_
          refine lv_iconst (v := 0) hx hb dX7_advance_44 (by decide) ?_
          refine va_put (D := D) (ci := 7) (v := .int 0) (ty := tyX7 5) (C := RX7) (T := TX7) (N := 10) hx hb hts hiX7 tyX7 tyX7_ok nmX7 hown hK hP hD hS 0 rfl rfl 5 (by decide) (hts _ (List.mem_of_getElem? (i := 6) rfl)) (fun _ h9 => h9) rfl (tyX7_ok 5 (by decide)) rfl rfl (Nat.le_of_ble_eq_true rfl) dX7_advance_45 (fun H locs hP hD hS => ?_)
          have hP : va_P D vwCl [(tk, .inr (7, [.ref ta, .int tkm, .int tkb, .int tkk, .int tka, .int 0, .long tkc, .ref (ad 0), .int tkf, .int tkg])), (ta, .inr (6, [.ref tab, .int tan])), (tab, .inl (tabt, 940, .inl tabf))] H := hP
          have hD : va_D A [(tk, .inr (7, [.ref ta, .int tkm, .int tkb, .int tkk, .int tka, .int 0, .long tkc, .ref (ad 0), .int tkf, .int tkg])), (ta, .inr (6, [.ref tab, .int tan])), (tab, .inl (tabt, 940, .inl tabf))] := hD
          refine lv_aload_n hx hb dX7_advance_48 rfl (lv_at hl 1 rfl) ?_
          refine lv_lconst (v := 0) hx hb dX7_advance_49 (by decide) ?_
          refine va_put (D := D) (ci := 7) (v := .long 0) (ty := tyX7 6) (C := RX7) (T := TX7) (N := 10) hx hb hts hiX7 tyX7 tyX7_ok nmX7 hown hK hP hD hS 0 rfl rfl 6 (by decide) (hts _ (List.mem_of_getElem? (i := 7) rfl)) (fun _ h9 => h9) rfl (tyX7_ok 6 (by decide)) rfl rfl (Nat.le_of_ble_eq_true rfl) dX7_advance_50 (fun H locs hP hD hS => ?_)
          have hP : va_P D vwCl [(tk, .inr (7, [.ref ta, .int tkm, .int tkb, .int tkk, .int tka, .int 0, .long 0, .ref (ad 0), .int tkf, .int tkg])), (ta, .inr (6, [.ref tab, .int tan])), (tab, .inl (tabt, 940, .inl tabf))] H := hP
          have hD : va_D A [(tk, .inr (7, [.ref ta, .int tkm, .int tkb, .int tkk, .int tka, .int 0, .long 0, .ref (ad 0), .int tkf, .int tkg])), (ta, .inr (6, [.ref tab, .int tan])), (tab, .inl (tabt, 940, .inl tabf))] := hD
          refine lv_iload_n hx hb dX7_advance_53 rfl (lv_at hl 0 rfl) ?_
          refine lv_aload_n hx hb dX7_advance_54 rfl (lv_at hl 1 rfl) ?_
          refine va_get (D := D) (ci := 7) (v := .ref ta) (C := RX7) (T := TX7) (N := 10) hx hb hts hiX7 hown hK hP 0 rfl rfl 0 (by decide) (hts _ (List.mem_of_getElem? (i := 2) rfl)) (fun _ h9 => h9) rfl dX7_advance_55 ?_
          refine va_get (D := D) (ci := 6) (v := .int tan) (C := RX6) (T := TX6) (N := 2) hx hb hts hiX6 hown hK hP 1 rfl rfl 1 (by decide) (hts _ (List.mem_of_getElem? (i := 3) rfl)) (fun _ h9 => h9) rfl dX7_advance_58 ?_
          refine lv_icmp_ge (tgt := 72) hx hb dX7_advance_61 (by decide) (fun c_91 => ?_) (fun c_91 => ?_)
          · skip
            have h_92 : z_in 1 939 tan := z_leL c_91 h_79 h_78 rfl
            have h_93 : z_in 1 939 v1_1 := z_leR c_91 h_79 h_78 rfl
            refine lv_aload_n hx hb dX7_advance_72 rfl (lv_at hl 1 rfl) ?_
            have hc9 := (w_Tokens_stop l D ad tk tkm tkb tkk tka 0 0 tkf tkg ta tan tab tabt tabf htkm htkb htkk (z_w (c := 0) (d := 940) h_92 rfl))
            refine z_callv (w0 := [(tk, .inr (7, [.ref ta, .int tkm, .int tkb, .int tkk, .int tka, .int 0, .long 0, .ref (ad 0), .int tkf, .int tkg])), (ta, .inr (6, [.ref tab, .int tan])), (tab, .inl (tabt, 940, .inl tabf))]) (wr := []) (va_runV (As := []) (rest := []) ⟨hx, hb, hml, hown, hts⟩ (hc9 _) (cwV 0 hts gX7_advance_X7_stop rfl rfl rfl (by decide +kernel) ⟨Nat.le_of_ble_eq_true rfl, Nat.le_of_ble_eq_true rfl⟩) (z_preV hP hD hK hS hA hE hO [0, 1, 2] [0] rfl (by decide +kernel) rfl 0 7 rfl rfl rfl) rfl rfl hl.1 rfl (lv_room (Nat.le_of_ble_eq_true rfl)) dX7_advance_73 ⟨Nat.le_of_ble_eq_true rfl, Nat.le_of_ble_eq_true rfl⟩) hP hD hK hS hA [0, 1, 2] [] rfl rfl (by decide +kernel) (by decide +kernel) (fun u9 H locs hw hP hD hK hS => ?_)
            refine z_ex3 hw (fun x_94 x_96 x_98 hw => ?_)
            refine z_an3 hw (fun h_95 h_97 h_99 hw => ?_)
            subst hw
            have hP : va_P D vwCl [(tk, .inr (7, [.ref ta, .int tkm, .int x_94, .int x_96, .int x_98, .int 0, .long 0, .ref (ad 0), .int tkf, .int tkg])), (ta, .inr (6, [.ref tab, .int tan])), (tab, .inl (tabt, 940, .inl tabf))] H := hP
            have hD : va_D A [(tk, .inr (7, [.ref ta, .int tkm, .int x_94, .int x_96, .int x_98, .int 0, .long 0, .ref (ad 0), .int tkf, .int tkg])), (ta, .inr (6, [.ref tab, .int tan])), (tab, .inl (tabt, 940, .inl tabf))] := hD
            have hK : va_K D vwCl [(tabt, .byte)] s := hK
            refine W.cs (cells' := 0) (slots' := 0) rfl rfl ?_
            refine lv_goto (tgt := 120) hx hb dX7_advance_76 (by decide) ?_
            exact hret ([(tk, .inr (7, [.ref ta, .int tkm, .int x_94, .int x_96, .int x_98, .int 0, .long 0, .ref (ad 0), .int tkf, .int tkg])), (ta, .inr (6, [.ref tab, .int tan])), (tab, .inl (tabt, 940, .inl tabf))], []) _ _ _ _ dX7_advance_120 ⟨x_94, x_96, x_98, 0, 0, 0, h_95, h_97, (by decide), (z_tk0 x_96), (z_ctkS h_99 (z_w (c := 0) (d := 940) h_92 rfl) htkm), (z_TxSt hI1_1 (z_sxT c_91) c_91 h_99 (z_w (c := 0) (d := 940) h_92 rfl) htkm), rfl⟩ hP (hK.sub [] rfl) hD hS
          · skip
            refine lv_iload_n hx hb dX7_advance_64 rfl (lv_at hl 0 rfl) ?_
            refine lv_aload_n hx hb dX7_advance_65 rfl (lv_at hl 1 rfl) ?_
            refine va_get (D := D) (ci := 7) (v := .int tkm) (C := RX7) (T := TX7) (N := 10) hx hb hts hiX7 hown hK hP 0 rfl rfl 1 (by decide) (hts _ (List.mem_of_getElem? (i := 8) rfl)) (fun _ h9 => h9) rfl dX7_advance_66 ?_
            refine lv_icmp_lt (tgt := 79) hx hb dX7_advance_69 (by decide) (fun c_100 => ?_) (fun c_100 => ?_)
            · skip
              have h_101 : z_in 1 940 tkm := z_ltR c_100 h_78 htkm rfl
              refine lv_aload_n hx hb dX7_advance_79 rfl (lv_at hl 1 rfl) ?_
              refine va_get (D := D) (ci := 7) (v := .ref ta) (C := RX7) (T := TX7) (N := 10) hx hb hts hiX7 hown hK hP 0 rfl rfl 0 (by decide) (hts _ (List.mem_of_getElem? (i := 2) rfl)) (fun _ h9 => h9) rfl dX7_advance_80 ?_
              refine lv_iload_n hx hb dX7_advance_83 rfl (lv_at hl 0 rfl) ?_
              have hc9 := (w_Tape940_get l D ad ta tan tab tabt tabf v1_1 (z_w (c := 0) (d := 940) h_79 rfl))
              refine z_calli (w0 := [(ta, .inr (6, [.ref tab, .int tan])), (tab, .inl (tabt, 940, .inl tabf))]) (wr := [(tk, .inr (7, [.ref ta, .int tkm, .int tkb, .int tkk, .int tka, .int 0, .long 0, .ref (ad 0), .int tkf, .int tkg]))]) (va_runV (As := [.int v1_1]) (rest := []) ⟨hx, hb, hml, hown, hts⟩ (hc9 _) (cwV 1 hts gX7_advance_X6_get rfl rfl rfl (by decide +kernel) ⟨Nat.le_of_ble_eq_true rfl, Nat.le_of_ble_eq_true rfl⟩) (z_preV hP hD hK hS hA hE hO [1, 2] [0] rfl (by decide +kernel) rfl 1 6 rfl rfl rfl) rfl rfl hl.1 rfl (lv_room (Nat.le_of_ble_eq_true rfl)) dX7_advance_84 ⟨Nat.le_of_ble_eq_true rfl, Nat.le_of_ble_eq_true rfl⟩) hP hD hK hS hA [1, 2] [0] rfl rfl (by decide +kernel) (by decide +kernel) (fun y_102 u9 H locs hw hP hD hK hS => ?_)
              obtain ⟨h_103, h_104, h_105, h_106, rfl⟩ := hw
              have hP : va_P D vwCl [(tk, .inr (7, [.ref ta, .int tkm, .int tkb, .int tkk, .int tka, .int 0, .long 0, .ref (ad 0), .int tkf, .int tkg])), (ta, .inr (6, [.ref tab, .int tan])), (tab, .inl (tabt, 940, .inl tabf))] H := hP
              have hD : va_D A [(tk, .inr (7, [.ref ta, .int tkm, .int tkb, .int tkk, .int tka, .int 0, .long 0, .ref (ad 0), .int tkf, .int tkg])), (ta, .inr (6, [.ref tab, .int tan])), (tab, .inl (tabt, 940, .inl tabf))] := hD
              have hK : va_K D vwCl [(tabt, .byte)] s := hK
              refine W.cs (cells' := 0) (slots' := 0) rfl rfl ?_
              refine W.eq (g2 := F0 m 87 ls (.int y_102 :: [])) rfl ?_
              have hc9 := (w_Tokens_isLetter l D ad y_102 )
              refine z_calli (w0 := []) (wr := [(tk, .inr (7, [.ref ta, .int tkm, .int tkb, .int tkk, .int tka, .int 0, .long 0, .ref (ad 0), .int tkf, .int tkg])), (ta, .inr (6, [.ref tab, .int tan])), (tab, .inl (tabt, 940, .inl tabf))]) (va_runS (As := [.int y_102]) (rest := []) ⟨hx, hb, hml, hown, hts⟩ (hc9 _) (va_cwS 1 hts gX7_advance_X7_isLetter rfl rfl rfl (by decide +kernel) ⟨Nat.le_of_ble_eq_true rfl, Nat.le_of_ble_eq_true rfl⟩) (z_preS hP hD hK hS hA hE hO [] [] rfl (by decide +kernel) rfl) rfl rfl hl.1 rfl (lv_room (Nat.le_of_ble_eq_true rfl)) dX7_advance_87 ⟨Nat.le_of_ble_eq_true rfl, Nat.le_of_ble_eq_true rfl⟩) hP hD hK hS hA [] [0, 1, 2] rfl rfl (by decide +kernel) (by decide +kernel) (fun y_107 u9 H locs hw hP hD hK hS => ?_)
              obtain ⟨h_108, h_109, h_110, rfl⟩ := hw
              have hP : va_P D vwCl [(tk, .inr (7, [.ref ta, .int tkm, .int tkb, .int tkk, .int tka, .int 0, .long 0, .ref (ad 0), .int tkf, .int tkg])), (ta, .inr (6, [.ref tab, .int tan])), (tab, .inl (tabt, 940, .inl tabf))] H := hP
              have hD : va_D A [(tk, .inr (7, [.ref ta, .int tkm, .int tkb, .int tkk, .int tka, .int 0, .long 0, .ref (ad 0), .int tkf, .int tkg])), (ta, .inr (6, [.ref tab, .int tan])), (tab, .inl (tabt, 940, .inl tabf))] := hD
              have hK : va_K D vwCl [(tabt, .byte)] s := hK
              refine W.cs (cells' := 0) (slots' := 0) rfl rfl ?_
              refine W.eq (g2 := F0 m 90 ls (.int y_107 :: [])) rfl ?_
              refine lv_if_ne (tgt := 107) hx hb dX7_advance_90 (by decide) (fun c_111 => ?_) (fun c_111 => ?_)
              · skip
                have h_112 : z_in 1 1 y_107 := z_neLo c_111 h_108 (z_lit (x := 0) (a := 0) (b := 0) rfl) rfl
                have h_113 : z_in 97 122 y_102 := z_both h_103 (h_109 (z_eqk h_112 rfl)) rfl
                refine lv_aload_n hx hb dX7_advance_107 rfl (lv_at hl 1 rfl) ?_
                refine lv_iload_n hx hb dX7_advance_108 rfl (lv_at hl 0 rfl) ?_
                have hc9 := (w_Tokens_readRun l D ad tk tkm tkb tkk tka 0 0 tkf tkg ta tan tab tabt tabf v1_1 (z_w (c := 0) (d := 940) h_101 rfl) htkb htkk (z_w (c := 0) (d := 940) h_79 rfl) h_78 (show z_z0 0 from rfl) (show z_y0 0 from rfl) (z_paL (z_w (c := 0) (d := 940) h_78 rfl) (Int32.not_le.mp c_91) h_110 (z_eqk h_112 rfl) h_106) (z_lt9I (Int32.not_le.mp c_91)))
                refine z_callv (w0 := [(tk, .inr (7, [.ref ta, .int tkm, .int tkb, .int tkk, .int tka, .int 0, .long 0, .ref (ad 0), .int tkf, .int tkg])), (ta, .inr (6, [.ref tab, .int tan])), (tab, .inl (tabt, 940, .inl tabf))]) (wr := []) (va_runV (As := [.int v1_1]) (rest := []) ⟨hx, hb, hml, hown, hts⟩ (hc9 _) (cwV 1 hts gX7_advance_X7_readRun rfl rfl rfl (by decide +kernel) ⟨Nat.le_of_ble_eq_true rfl, Nat.le_of_ble_eq_true rfl⟩) (z_preV hP hD hK hS hA hE hO [0, 1, 2] [0] rfl (by decide +kernel) rfl 0 7 rfl rfl rfl) rfl rfl hl.1 rfl (lv_room (Nat.le_of_ble_eq_true rfl)) dX7_advance_109 ⟨Nat.le_of_ble_eq_true rfl, Nat.le_of_ble_eq_true rfl⟩) hP hD hK hS hA [0, 1, 2] [] rfl rfl (by decide +kernel) (by decide +kernel) (fun u9 H locs hw hP hD hK hS => ?_)
                refine z_ex6 hw (fun x_114 x_116 x_118 x_119 f_120 f_121 hw => ?_)
                refine z_an6 hw (fun h_115 h_117 h_122 h_123 h_124 h_125 hw => ?_)
                subst hw
                have hP : va_P D vwCl [(tk, .inr (7, [.ref ta, .int tkm, .int x_114, .int x_116, .int x_118, .int x_119, .long f_120, .ref (ad f_121), .int tkf, .int tkg])), (ta, .inr (6, [.ref tab, .int tan])), (tab, .inl (tabt, 940, .inl tabf))] H := hP
                have hD : va_D A [(tk, .inr (7, [.ref ta, .int tkm, .int x_114, .int x_116, .int x_118, .int x_119, .long f_120, .ref (ad f_121), .int tkf, .int tkg])), (ta, .inr (6, [.ref tab, .int tan])), (tab, .inl (tabt, 940, .inl tabf))] := hD
                have hK : va_K D vwCl [(tabt, .byte)] s := hK
                refine W.cs (cells' := 0) (slots' := 0) rfl rfl ?_
                refine lv_goto (tgt := 120) hx hb dX7_advance_112 (by decide) ?_
                exact hret ([(tk, .inr (7, [.ref ta, .int tkm, .int x_114, .int x_116, .int x_118, .int x_119, .long f_120, .ref (ad f_121), .int tkf, .int tkg])), (ta, .inr (6, [.ref tab, .int tan])), (tab, .inl (tabt, 940, .inl tabf))], []) _ _ _ _ dX7_advance_120 ⟨x_114, x_116, x_118, x_119, f_120, f_121, h_115, h_117, h_122, h_123, (z_ctR h_124 (Int32.not_le.mp c_91) c_100 h_125), (z_TxI hI1_1 (z_sxN (z_w (c := 0) (d := 940) h_78 rfl) (Int32.not_le.mp c_91) h_88 (z_eqk h_90 rfl) h_84) (Int32.not_le.mp c_91) c_100 h_125), rfl⟩ hP (hK.sub [] rfl) hD hS
              · skip
                have h_126 : z_in 0 0 y_107 := z_leL (Int32.le_of_eq c_111) h_108 (z_lit (x := 0) (a := 0) (b := 0) rfl) rfl
                refine lv_aload_n hx hb dX7_advance_93 rfl (lv_at hl 1 rfl) ?_
                refine va_get (D := D) (ci := 7) (v := .ref ta) (C := RX7) (T := TX7) (N := 10) hx hb hts hiX7 hown hK hP 0 rfl rfl 0 (by decide) (hts _ (List.mem_of_getElem? (i := 2) rfl)) (fun _ h9 => h9) rfl dX7_advance_94 ?_
                refine lv_iload_n hx hb dX7_advance_97 rfl (lv_at hl 0 rfl) ?_
                have hc9 := (w_Tape940_get l D ad ta tan tab tabt tabf v1_1 (z_w (c := 0) (d := 940) h_79 rfl))
                refine z_calli (w0 := [(ta, .inr (6, [.ref tab, .int tan])), (tab, .inl (tabt, 940, .inl tabf))]) (wr := [(tk, .inr (7, [.ref ta, .int tkm, .int tkb, .int tkk, .int tka, .int 0, .long 0, .ref (ad 0), .int tkf, .int tkg]))]) (va_runV (As := [.int v1_1]) (rest := []) ⟨hx, hb, hml, hown, hts⟩ (hc9 _) (cwV 1 hts gX7_advance_X6_get rfl rfl rfl (by decide +kernel) ⟨Nat.le_of_ble_eq_true rfl, Nat.le_of_ble_eq_true rfl⟩) (z_preV hP hD hK hS hA hE hO [1, 2] [0] rfl (by decide +kernel) rfl 1 6 rfl rfl rfl) rfl rfl hl.1 rfl (lv_room (Nat.le_of_ble_eq_true rfl)) dX7_advance_98 ⟨Nat.le_of_ble_eq_true rfl, Nat.le_of_ble_eq_true rfl⟩) hP hD hK hS hA [1, 2] [0] rfl rfl (by decide +kernel) (by decide +kernel) (fun y_127 u9 H locs hw hP hD hK hS => ?_)
                obtain ⟨h_128, h_129, h_130, h_131, rfl⟩ := hw
                have hP : va_P D vwCl [(tk, .inr (7, [.ref ta, .int tkm, .int tkb, .int tkk, .int tka, .int 0, .long 0, .ref (ad 0), .int tkf, .int tkg])), (ta, .inr (6, [.ref tab, .int tan])), (tab, .inl (tabt, 940, .inl tabf))] H := hP
                have hD : va_D A [(tk, .inr (7, [.ref ta, .int tkm, .int tkb, .int tkk, .int tka, .int 0, .long 0, .ref (ad 0), .int tkf, .int tkg])), (ta, .inr (6, [.ref tab, .int tan])), (tab, .inl (tabt, 940, .inl tabf))] := hD
                have hK : va_K D vwCl [(tabt, .byte)] s := hK
                refine W.cs (cells' := 0) (slots' := 0) rfl rfl ?_
                refine W.eq (g2 := F0 m 101 ls (.int y_127 :: [])) rfl ?_
                have hc9 := (w_Tokens_isDigit l D ad y_127 )
                refine z_calli (w0 := []) (wr := [(tk, .inr (7, [.ref ta, .int tkm, .int tkb, .int tkk, .int tka, .int 0, .long 0, .ref (ad 0), .int tkf, .int tkg])), (ta, .inr (6, [.ref tab, .int tan])), (tab, .inl (tabt, 940, .inl tabf))]) (va_runS (As := [.int y_127]) (rest := []) ⟨hx, hb, hml, hown, hts⟩ (hc9 _) (va_cwS 1 hts gX7_advance_X7_isDigit rfl rfl rfl (by decide +kernel) ⟨Nat.le_of_ble_eq_true rfl, Nat.le_of_ble_eq_true rfl⟩) (z_preS hP hD hK hS hA hE hO [] [] rfl (by decide +kernel) rfl) rfl rfl hl.1 rfl (lv_room (Nat.le_of_ble_eq_true rfl)) dX7_advance_101 ⟨Nat.le_of_ble_eq_true rfl, Nat.le_of_ble_eq_true rfl⟩) hP hD hK hS hA [] [0, 1, 2] rfl rfl (by decide +kernel) (by decide +kernel) (fun y_132 u9 H locs hw hP hD hK hS => ?_)
                obtain ⟨h_133, h_134, h_135, rfl⟩ := hw
                have hP : va_P D vwCl [(tk, .inr (7, [.ref ta, .int tkm, .int tkb, .int tkk, .int tka, .int 0, .long 0, .ref (ad 0), .int tkf, .int tkg])), (ta, .inr (6, [.ref tab, .int tan])), (tab, .inl (tabt, 940, .inl tabf))] H := hP
                have hD : va_D A [(tk, .inr (7, [.ref ta, .int tkm, .int tkb, .int tkk, .int tka, .int 0, .long 0, .ref (ad 0), .int tkf, .int tkg])), (ta, .inr (6, [.ref tab, .int tan])), (tab, .inl (tabt, 940, .inl tabf))] := hD
                have hK : va_K D vwCl [(tabt, .byte)] s := hK
                refine W.cs (cells' := 0) (slots' := 0) rfl rfl ?_
                refine W.eq (g2 := F0 m 104 ls (.int y_132 :: [])) rfl ?_
                refine lv_if_eq (tgt := 115) hx hb dX7_advance_104 (by decide) (fun c_136 => ?_) (fun c_136 => ?_)
                · skip
                  have h_137 : z_in 0 0 y_132 := z_leL (Int32.le_of_eq c_136) h_133 (z_lit (x := 0) (a := 0) (b := 0) rfl) rfl
                  refine lv_aload_n hx hb dX7_advance_115 rfl (lv_at hl 1 rfl) ?_
                  refine lv_iload_n hx hb dX7_advance_116 rfl (lv_at hl 0 rfl) ?_
                  have hc9 := (w_Tokens_readSign l D ad tk tkm tkb tkk tka 0 0 tkf tkg ta tan tab tabt tabf v1_1 (z_w (c := 0) (d := 940) h_101 rfl) htkb htkk (z_w (c := 0) (d := 940) h_79 rfl) h_78)
                  refine z_callv (w0 := [(tk, .inr (7, [.ref ta, .int tkm, .int tkb, .int tkk, .int tka, .int 0, .long 0, .ref (ad 0), .int tkf, .int tkg])), (ta, .inr (6, [.ref tab, .int tan])), (tab, .inl (tabt, 940, .inl tabf))]) (wr := []) (va_runV (As := [.int v1_1]) (rest := []) ⟨hx, hb, hml, hown, hts⟩ (hc9 _) (cwV 1 hts gX7_advance_X7_readSign rfl rfl rfl (by decide +kernel) ⟨Nat.le_of_ble_eq_true rfl, Nat.le_of_ble_eq_true rfl⟩) (z_preV hP hD hK hS hA hE hO [0, 1, 2] [0] rfl (by decide +kernel) rfl 0 7 rfl rfl rfl) rfl rfl hl.1 rfl (lv_room (Nat.le_of_ble_eq_true rfl)) dX7_advance_117 ⟨Nat.le_of_ble_eq_true rfl, Nat.le_of_ble_eq_true rfl⟩) hP hD hK hS hA [0, 1, 2] [] rfl rfl (by decide +kernel) (by decide +kernel) (fun u9 H locs hw hP hD hK hS => ?_)
                  refine z_ex4 hw (fun x_138 x_140 x_142 x_143 hw => ?_)
                  refine z_an4 hw (fun h_139 h_141 h_144 h_145 hw => ?_)
                  subst hw
                  have hP : va_P D vwCl [(tk, .inr (7, [.ref ta, .int tkm, .int x_138, .int x_140, .int x_142, .int x_143, .long 0, .ref (ad 0), .int tkf, .int tkg])), (ta, .inr (6, [.ref tab, .int tan])), (tab, .inl (tabt, 940, .inl tabf))] H := hP
                  have hD : va_D A [(tk, .inr (7, [.ref ta, .int tkm, .int x_138, .int x_140, .int x_142, .int x_143, .long 0, .ref (ad 0), .int tkf, .int tkg])), (ta, .inr (6, [.ref tab, .int tan])), (tab, .inl (tabt, 940, .inl tabf))] := hD
                  have hK : va_K D vwCl [(tabt, .byte)] s := hK
                  refine W.cs (cells' := 0) (slots' := 0) rfl rfl ?_
                  exact hret ([(tk, .inr (7, [.ref ta, .int tkm, .int x_138, .int x_140, .int x_142, .int x_143, .long 0, .ref (ad 0), .int tkf, .int tkg])), (ta, .inr (6, [.ref tab, .int tan])), (tab, .inl (tabt, 940, .inl tabf))], []) _ _ _ _ dX7_advance_120 ⟨x_138, x_140, x_142, x_143, 0, 0, h_139, h_141, (by decide), (z_tk0 x_140), (z_ctG h_144 (Int32.not_le.mp c_91) c_100 (z_w (c := 0) (d := 940) h_78 rfl) (z_pxN (z_w (c := 0) (d := 940) h_78 rfl) (Int32.not_le.mp c_91) h_110 (z_eqk h_126 rfl) h_106 h_135 (z_eqk h_137 rfl) h_131) h_145), (z_TxI hI1_1 (z_sxN (z_w (c := 0) (d := 940) h_78 rfl) (Int32.not_le.mp c_91) h_88 (z_eqk h_90 rfl) h_84) (Int32.not_le.mp c_91) c_100 h_145), rfl⟩ hP (hK.sub [] rfl) hD hS
                · skip
                  have h_146 : z_in 1 1 y_132 := z_neLo c_136 h_133 (z_lit (x := 0) (a := 0) (b := 0) rfl) rfl
                  have h_147 : z_in 48 57 y_127 := z_both h_128 (h_134 (z_eqk h_146 rfl)) rfl
                  refine lv_aload_n hx hb dX7_advance_107 rfl (lv_at hl 1 rfl) ?_
                  refine lv_iload_n hx hb dX7_advance_108 rfl (lv_at hl 0 rfl) ?_
                  have hc9 := (w_Tokens_readRun l D ad tk tkm tkb tkk tka 0 0 tkf tkg ta tan tab tabt tabf v1_1 (z_w (c := 0) (d := 940) h_101 rfl) htkb htkk (z_w (c := 0) (d := 940) h_79 rfl) h_78 (show z_z0 0 from rfl) (show z_y0 0 from rfl) (z_paD (z_w (c := 0) (d := 940) h_78 rfl) (Int32.not_le.mp c_91) h_135 (z_eqk h_146 rfl) h_131) (z_lt9I (Int32.not_le.mp c_91)))
                  refine z_callv (w0 := [(tk, .inr (7, [.ref ta, .int tkm, .int tkb, .int tkk, .int tka, .int 0, .long 0, .ref (ad 0), .int tkf, .int tkg])), (ta, .inr (6, [.ref tab, .int tan])), (tab, .inl (tabt, 940, .inl tabf))]) (wr := []) (va_runV (As := [.int v1_1]) (rest := []) ⟨hx, hb, hml, hown, hts⟩ (hc9 _) (cwV 1 hts gX7_advance_X7_readRun rfl rfl rfl (by decide +kernel) ⟨Nat.le_of_ble_eq_true rfl, Nat.le_of_ble_eq_true rfl⟩) (z_preV hP hD hK hS hA hE hO [0, 1, 2] [0] rfl (by decide +kernel) rfl 0 7 rfl rfl rfl) rfl rfl hl.1 rfl (lv_room (Nat.le_of_ble_eq_true rfl)) dX7_advance_109 ⟨Nat.le_of_ble_eq_true rfl, Nat.le_of_ble_eq_true rfl⟩) hP hD hK hS hA [0, 1, 2] [] rfl rfl (by decide +kernel) (by decide +kernel) (fun u9 H locs hw hP hD hK hS => ?_)
                  refine z_ex6 hw (fun x_148 x_150 x_152 x_153 f_154 f_155 hw => ?_)
                  refine z_an6 hw (fun h_149 h_151 h_156 h_157 h_158 h_159 hw => ?_)
                  subst hw
                  have hP : va_P D vwCl [(tk, .inr (7, [.ref ta, .int tkm, .int x_148, .int x_150, .int x_152, .int x_153, .long f_154, .ref (ad f_155), .int tkf, .int tkg])), (ta, .inr (6, [.ref tab, .int tan])), (tab, .inl (tabt, 940, .inl tabf))] H := hP
                  have hD : va_D A [(tk, .inr (7, [.ref ta, .int tkm, .int x_148, .int x_150, .int x_152, .int x_153, .long f_154, .ref (ad f_155), .int tkf, .int tkg])), (ta, .inr (6, [.ref tab, .int tan])), (tab, .inl (tabt, 940, .inl tabf))] := hD
                  have hK : va_K D vwCl [(tabt, .byte)] s := hK
                  refine W.cs (cells' := 0) (slots' := 0) rfl rfl ?_
                  refine lv_goto (tgt := 120) hx hb dX7_advance_112 (by decide) ?_
                  exact hret ([(tk, .inr (7, [.ref ta, .int tkm, .int x_148, .int x_150, .int x_152, .int x_153, .long f_154, .ref (ad f_155), .int tkf, .int tkg])), (ta, .inr (6, [.ref tab, .int tan])), (tab, .inl (tabt, 940, .inl tabf))], []) _ _ _ _ dX7_advance_120 ⟨x_148, x_150, x_152, x_153, f_154, f_155, h_149, h_151, h_156, h_157, (z_ctR h_158 (Int32.not_le.mp c_91) c_100 h_159), (z_TxI hI1_1 (z_sxN (z_w (c := 0) (d := 940) h_78 rfl) (Int32.not_le.mp c_91) h_88 (z_eqk h_90 rfl) h_84) (Int32.not_le.mp c_91) c_100 h_159), rfl⟩ hP (hK.sub [] rfl) hD hS
            · skip
              have h_160 : z_in 0 939 tkm := z_leL (Int32.not_lt.mp c_100) htkm h_78 rfl
              refine lv_aload_n hx hb dX7_advance_72 rfl (lv_at hl 1 rfl) ?_
              have hc9 := (w_Tokens_stop l D ad tk tkm tkb tkk tka 0 0 tkf tkg ta tan tab tabt tabf (z_w (c := 0) (d := 940) h_160 rfl) htkb htkk (z_w (c := 0) (d := 940) h_79 rfl))
              refine z_callv (w0 := [(tk, .inr (7, [.ref ta, .int tkm, .int tkb, .int tkk, .int tka, .int 0, .long 0, .ref (ad 0), .int tkf, .int tkg])), (ta, .inr (6, [.ref tab, .int tan])), (tab, .inl (tabt, 940, .inl tabf))]) (wr := []) (va_runV (As := []) (rest := []) ⟨hx, hb, hml, hown, hts⟩ (hc9 _) (cwV 0 hts gX7_advance_X7_stop rfl rfl rfl (by decide +kernel) ⟨Nat.le_of_ble_eq_true rfl, Nat.le_of_ble_eq_true rfl⟩) (z_preV hP hD hK hS hA hE hO [0, 1, 2] [0] rfl (by decide +kernel) rfl 0 7 rfl rfl rfl) rfl rfl hl.1 rfl (lv_room (Nat.le_of_ble_eq_true rfl)) dX7_advance_73 ⟨Nat.le_of_ble_eq_true rfl, Nat.le_of_ble_eq_true rfl⟩) hP hD hK hS hA [0, 1, 2] [] rfl rfl (by decide +kernel) (by decide +kernel) (fun u9 H locs hw hP hD hK hS => ?_)
              refine z_ex3 hw (fun x_161 x_163 x_165 hw => ?_)
              refine z_an3 hw (fun h_162 h_164 h_166 hw => ?_)
              subst hw
              have hP : va_P D vwCl [(tk, .inr (7, [.ref ta, .int tkm, .int x_161, .int x_163, .int x_165, .int 0, .long 0, .ref (ad 0), .int tkf, .int tkg])), (ta, .inr (6, [.ref tab, .int tan])), (tab, .inl (tabt, 940, .inl tabf))] H := hP
              have hD : va_D A [(tk, .inr (7, [.ref ta, .int tkm, .int x_161, .int x_163, .int x_165, .int 0, .long 0, .ref (ad 0), .int tkf, .int tkg])), (ta, .inr (6, [.ref tab, .int tan])), (tab, .inl (tabt, 940, .inl tabf))] := hD
              have hK : va_K D vwCl [(tabt, .byte)] s := hK
              refine W.cs (cells' := 0) (slots' := 0) rfl rfl ?_
              refine lv_goto (tgt := 120) hx hb dX7_advance_76 (by decide) ?_
              exact hret ([(tk, .inr (7, [.ref ta, .int tkm, .int x_161, .int x_163, .int x_165, .int 0, .long 0, .ref (ad 0), .int tkf, .int tkg])), (ta, .inr (6, [.ref tab, .int tan])), (tab, .inl (tabt, 940, .inl tabf))], []) _ _ _ _ dX7_advance_120 ⟨x_161, x_163, x_165, 0, 0, 0, h_162, h_164, (by decide), (z_tk0 x_163), (z_ctkS h_166 (z_w (c := 0) (d := 940) h_79 rfl) (z_w (c := 0) (d := 940) h_160 rfl)), (z_TxSm hI1_1 (z_sxN (z_w (c := 0) (d := 940) h_78 rfl) (Int32.not_le.mp c_91) h_88 (z_eqk h_90 rfl) h_84) (Int32.not_lt.mp c_100) h_166 (z_w (c := 0) (d := 940) h_79 rfl) (z_w (c := 0) (d := 940) h_160 rfl)), rfl⟩ hP (hK.sub [] rfl) hD hS
        · skip
          have h_167 : z_in 1 1 y_85 := z_neLo c_89 h_86 (z_lit (x := 0) (a := 0) (b := 0) rfl) rfl
          have h_168 : z_in 10 32 y_80 := z_both h_81 (h_87 (z_eqk h_167 rfl)) rfl
          obtain ⟨y_169, ey_169⟩ : ∃ y : Int32, y = v1_1 + 1 := ⟨_, rfl⟩
          have h_170 : z_in 1 940 y_169 := by rw [ey_169]; exact z_add h_78 (z_lit (x := 1) (a := 1) (b := 1) rfl) rfl rfl
          have ty_169 : y_169.toInt = v1_1.toInt + 1 := by rw [ey_169]; exact z_addT h_78 (z_lit (x := 1) (a := 1) (b := 1) rfl) rfl
          refine lv_iinc (v := y_169) (lv' := [(1, .int y_169), (0, .ref tk)]) hx hb dX7_advance_30 hl (k := 0) rfl (by rw [ey_169]; rfl) (by decide) rfl (fun ls hl => ?_)
          refine lv_goto (tgt := 5) hx hb dX7_advance_33 (by decide) ?_
          exact ih1 y_169 _ _ _ (z_w (c := 0) (d := 940) h_170 rfl) (z_skS hI1_1 ty_169 (Int32.not_le.mp c_1) h_88 (z_eqk h_167 rfl) h_84) (by omega) hP hD hS (lv_sub hl [0, 1] rfl)
  exact LP1 941 tkb _ _ _ htkb (z_sk0 htkb) (by have q1 := htkb.1; have q2 := htkb.2; omega) hP hD hS (lv_sub hl [0, 1] rfl)

set_option maxHeartbeats 8000000 in
set_option maxRecDepth 100000 in
theorem w_Tokens_start (l : Launch) (D : va_G) (ad : Nat → Nat) (tk : Nat) (tkm : Int32) (tkb : Int32) (tkk : Int32) (tka : Int32) (tkv : Int32) (tkc : Int64) (tkf : Int32) (tkg : Int32) (tkw : Nat) (ta : Nat) (tan : Int32) (tab : Nat) (tabt : ClassId) (tabf : Nat → Int32) (i0 : Int32) (htkm : z_in 0 940 tkm) (htkb : z_in 0 940 tkb) (htkk : z_in 0 4 tkk) (htkw : tkw < 22) (htan : z_in 0 940 tan) (hi0 : z_in 0 940 i0) (httk : z_tk tkk tkw) : z_Mv l yX7_start wsX7_start { frames := 3, cells := 0, slots := 0, locals := 66 } D ad [.ref tk, .int i0] [(tk, .inr (7, [.ref ta, .int tkm, .int tkb, .int tkk, .int tka, .int tkv, .long tkc, .ref (ad tkw), .int tkf, .int tkg])), (ta, .inr (6, [.ref tab, .int tan])), (tab, .inl (tabt, 940, .inl tabf))] [(tabt, .byte)] 0 0 (fun u9 => ∃ (x0_1 : Int32) (x0_2 : Int32) (x0_3 : Int32) (x0_4 : Int32) (x0_5 : Int32) (x0_6 : Int64) (x0_7 : Nat) (x0_8 : Int32) (x0_9 : Int32), z_in 0 940 x0_1 ∧ z_in 0 940 x0_2 ∧ z_in 0 4 x0_3 ∧ x0_7 < 22 ∧ z_tk x0_3 x0_7 ∧ z_sz x0_1 i0 ∧ z_ctk z_cds tabf tan x0_1 x0_3 x0_4 x0_5 x0_6 x0_7 x0_2 ∧ z_TX tabf tan x0_1 0 x0_4 ∧ z_z0 x0_8 ∧ u9 = ([(tk, .inr (7, [.ref ta, .int x0_1, .int x0_2, .int x0_3, .int x0_4, .int x0_5, .long x0_6, .ref (ad x0_7), .int x0_8, .int x0_9])), (ta, .inr (6, [.ref tab, .int tan])), (tab, .inl (tabt, 940, .inl tabf))], [])) := by
  refine z_ofV (cc := cX7_start) (maxL := 2) (by decide) rfl (Nat.le_of_ble_eq_true rfl) ?_
  intro p e s m below meth c Q A ls hx hb hml hown hts hin hK hP hD hA hE hO hS hl hret
  have hown : s.vm.findClass RX7 = some m.cls := hown
  have hiX7 : ∀ w ∈ wsX70, w ∈ wsX7_start := fun _ h9 => List.mem_cons_of_mem _ (List.mem_append_left _ (List.mem_append_right _ h9))
  have hiX6 : ∀ w ∈ wsX60, w ∈ wsX7_start := fun _ h9 => List.mem_cons_of_mem _ (List.mem_append_right _ h9)
  have hl : lv_has ls 2 [(0, .ref tk), (1, .int i0)] := hl
  refine lv_aload_n hx hb dX7_start_0 rfl (lv_at hl 0 rfl) ?_
  refine lv_iload_n hx hb dX7_start_1 rfl (lv_at hl 1 rfl) ?_
  refine va_put (D := D) (ci := 7) (v := .int i0) (ty := tyX7 1) (C := RX7) (T := TX7) (N := 10) hx hb hts hiX7 tyX7 tyX7_ok nmX7 hown hK hP hD hS 0 rfl rfl 1 (by decide) (hts _ (List.mem_of_getElem? (i := 1) rfl)) (fun _ h9 => h9) rfl (tyX7_ok 1 (by decide)) rfl rfl (Nat.le_of_ble_eq_true rfl) dX7_start_2 (fun H locs hP hD hS => ?_)
  have hP : va_P D vwCl [(tk, .inr (7, [.ref ta, .int i0, .int tkb, .int tkk, .int tka, .int tkv, .long tkc, .ref (ad tkw), .int tkf, .int tkg])), (ta, .inr (6, [.ref tab, .int tan])), (tab, .inl (tabt, 940, .inl tabf))] H := hP
  have hD : va_D A [(tk, .inr (7, [.ref ta, .int i0, .int tkb, .int tkk, .int tka, .int tkv, .long tkc, .ref (ad tkw), .int tkf, .int tkg])), (ta, .inr (6, [.ref tab, .int tan])), (tab, .inl (tabt, 940, .inl tabf))] := hD
  refine lv_aload_n hx hb dX7_start_5 rfl (lv_at hl 0 rfl) ?_
  refine lv_iconst (v := 0) hx hb dX7_start_6 (by decide) ?_
  refine va_put (D := D) (ci := 7) (v := .int 0) (ty := tyX7 2) (C := RX7) (T := TX7) (N := 10) hx hb hts hiX7 tyX7 tyX7_ok nmX7 hown hK hP hD hS 0 rfl rfl 2 (by decide) (hts _ (List.mem_of_getElem? (i := 2) rfl)) (fun _ h9 => h9) rfl (tyX7_ok 2 (by decide)) rfl rfl (Nat.le_of_ble_eq_true rfl) dX7_start_7 (fun H locs hP hD hS => ?_)
  have hP : va_P D vwCl [(tk, .inr (7, [.ref ta, .int i0, .int 0, .int tkk, .int tka, .int tkv, .long tkc, .ref (ad tkw), .int tkf, .int tkg])), (ta, .inr (6, [.ref tab, .int tan])), (tab, .inl (tabt, 940, .inl tabf))] H := hP
  have hD : va_D A [(tk, .inr (7, [.ref ta, .int i0, .int 0, .int tkk, .int tka, .int tkv, .long tkc, .ref (ad tkw), .int tkf, .int tkg])), (ta, .inr (6, [.ref tab, .int tan])), (tab, .inl (tabt, 940, .inl tabf))] := hD
  refine lv_aload_n hx hb dX7_start_10 rfl (lv_at hl 0 rfl) ?_
  refine lv_iconst (v := 0) hx hb dX7_start_11 (by decide) ?_
  refine va_put (D := D) (ci := 7) (v := .int 0) (ty := tyX7 8) (C := RX7) (T := TX7) (N := 10) hx hb hts hiX7 tyX7 tyX7_ok nmX7 hown hK hP hD hS 0 rfl rfl 8 (by decide) (hts _ (List.mem_of_getElem? (i := 3) rfl)) (fun _ h9 => h9) rfl (tyX7_ok 8 (by decide)) rfl rfl (Nat.le_of_ble_eq_true rfl) dX7_start_12 (fun H locs hP hD hS => ?_)
  have hP : va_P D vwCl [(tk, .inr (7, [.ref ta, .int i0, .int 0, .int tkk, .int tka, .int tkv, .long tkc, .ref (ad tkw), .int 0, .int tkg])), (ta, .inr (6, [.ref tab, .int tan])), (tab, .inl (tabt, 940, .inl tabf))] H := hP
  have hD : va_D A [(tk, .inr (7, [.ref ta, .int i0, .int 0, .int tkk, .int tka, .int tkv, .long tkc, .ref (ad tkw), .int 0, .int tkg])), (ta, .inr (6, [.ref tab, .int tan])), (tab, .inl (tabt, 940, .inl tabf))] := hD
  refine lv_aload_n hx hb dX7_start_15 rfl (lv_at hl 0 rfl) ?_
  refine lv_iconst (v := 0) hx hb dX7_start_16 (by decide) ?_
  refine va_put (D := D) (ci := 7) (v := .int 0) (ty := tyX7 9) (C := RX7) (T := TX7) (N := 10) hx hb hts hiX7 tyX7 tyX7_ok nmX7 hown hK hP hD hS 0 rfl rfl 9 (by decide) (hts _ (List.mem_of_getElem? (i := 4) rfl)) (fun _ h9 => h9) rfl (tyX7_ok 9 (by decide)) rfl rfl (Nat.le_of_ble_eq_true rfl) dX7_start_17 (fun H locs hP hD hS => ?_)
  have hP : va_P D vwCl [(tk, .inr (7, [.ref ta, .int i0, .int 0, .int tkk, .int tka, .int tkv, .long tkc, .ref (ad tkw), .int 0, .int 0])), (ta, .inr (6, [.ref tab, .int tan])), (tab, .inl (tabt, 940, .inl tabf))] H := hP
  have hD : va_D A [(tk, .inr (7, [.ref ta, .int i0, .int 0, .int tkk, .int tka, .int tkv, .long tkc, .ref (ad tkw), .int 0, .int 0])), (ta, .inr (6, [.ref tab, .int tan])), (tab, .inl (tabt, 940, .inl tabf))] := hD
  refine lv_aload_n hx hb dX7_start_20 rfl (lv_at hl 0 rfl) ?_
  have hc9 := (w_Tokens_advance l D ad tk i0 0 tkk tka tkv tkc 0 0 tkw ta tan tab tabt tabf hi0 (z_w (c := 0) (d := 940) (z_lit (x := 0) (a := 0) (b := 0) rfl) rfl) htkk htkw htan httk)
  refine z_callv (w0 := [(tk, .inr (7, [.ref ta, .int i0, .int 0, .int tkk, .int tka, .int tkv, .long tkc, .ref (ad tkw), .int 0, .int 0])), (ta, .inr (6, [.ref tab, .int tan])), (tab, .inl (tabt, 940, .inl tabf))]) (wr := []) (va_runV (As := []) (rest := []) ⟨hx, hb, hml, hown, hts⟩ (hc9 _) (cwV 0 hts gX7_start_X7_advance rfl rfl rfl (by decide +kernel) ⟨Nat.le_of_ble_eq_true rfl, Nat.le_of_ble_eq_true rfl⟩) (z_preV hP hD hK hS hA hE hO [0, 1, 2] [0] rfl (by decide +kernel) rfl 0 7 rfl rfl rfl) rfl rfl hl.1 rfl (lv_room (Nat.le_of_ble_eq_true rfl)) dX7_start_21 ⟨Nat.le_of_ble_eq_true rfl, Nat.le_of_ble_eq_true rfl⟩) hP hD hK hS hA [0, 1, 2] [] rfl rfl (by decide +kernel) (by decide +kernel) (fun u9 H locs hw hP hD hK hS => ?_)
  refine z_ex6 hw (fun x_1 x_3 x_5 x_6 f_7 f_8 hw => ?_)
  refine z_an6 hw (fun h_2 h_4 h_9 h_10 h_11 h_12 hw => ?_)
  subst hw
  have hP : va_P D vwCl [(tk, .inr (7, [.ref ta, .int i0, .int x_1, .int x_3, .int x_5, .int x_6, .long f_7, .ref (ad f_8), .int 0, .int 0])), (ta, .inr (6, [.ref tab, .int tan])), (tab, .inl (tabt, 940, .inl tabf))] H := hP
  have hD : va_D A [(tk, .inr (7, [.ref ta, .int i0, .int x_1, .int x_3, .int x_5, .int x_6, .long f_7, .ref (ad f_8), .int 0, .int 0])), (ta, .inr (6, [.ref tab, .int tan])), (tab, .inl (tabt, 940, .inl tabf))] := hD
  have hK : va_K D vwCl [(tabt, .byte)] s := hK
  refine W.cs (cells' := 0) (slots' := 0) rfl rfl ?_
  exact hret ([(tk, .inr (7, [.ref ta, .int i0, .int x_1, .int x_3, .int x_5, .int x_6, .long f_7, .ref (ad f_8), .int 0, .int 0])), (ta, .inr (6, [.ref tab, .int tan])), (tab, .inl (tabt, 940, .inl tabf))], []) _ _ _ _ dX7_start_24 ⟨i0, x_1, x_3, x_5, x_6, f_7, f_8, 0, 0, hi0, h_2, h_4, h_9, h_10, (show z_sz i0 i0 from rfl), h_11, h_12, (show z_z0 0 from rfl), rfl⟩ hP (hK.sub [] rfl) hD hS

set_option maxHeartbeats 8000000 in
set_option maxRecDepth 100000 in
theorem s_Tokens_isEnd (l : Launch) (D : va_G) (ad : Nat → Nat) (tk : Nat) (tkm : Int32) (tkb : Int32) (tkk : Int32) (tka : Int32) (tkv : Int32) (tkc : Int64) (tkf : Int32) (tkg : Int32) (tkw : Nat) (ta : Nat) (tan : Int32) (tab : Nat) (tabt : ClassId) (tabf : Nat → Int32) (htkm : z_in 0 940 tkm) (htkb : z_in 0 940 tkb) (htkk : z_in 0 4 tkk) (htkw : tkw < 22) (htan : z_in 0 940 tan) (httk : z_tk tkk tkw) (hctk : z_ctk z_cds tabf tan tkm tkk tka tkv tkc tkw tkb) : z_Mi l yX7_isEnd wsX7_isEnd { frames := 0, cells := 0, slots := 0, locals := 0 } D ad [.ref tk] [(tk, .inr (7, [.ref ta, .int tkm, .int tkb, .int tkk, .int tka, .int tkv, .long tkc, .ref (ad tkw), .int tkf, .int tkg])), (ta, .inr (6, [.ref tab, .int tan])), (tab, .inl (tabt, 940, .inl tabf))] [(tabt, .byte)] 0 0 (fun r9 u9 => z_in 0 1 r9 ∧ (r9 = 0 → z_in 1 4 tkk) ∧ (r9 = 1 → z_in 0 0 tkk) ∧ z_SE r9 tan tkm tka ∧ u9 = ([(tk, .inr (7, [.ref ta, .int tkm, .int tkb, .int tkk, .int tka, .int tkv, .long tkc, .ref (ad tkw), .int tkf, .int tkg])), (ta, .inr (6, [.ref tab, .int tan])), (tab, .inl (tabt, 940, .inl tabf))], [])) := by
  refine z_ofI (cc := cX7_isEnd) (maxL := 1) (rt := .boolean) (by decide) rfl (Nat.le_of_ble_eq_true rfl) ?_
  intro p e s m below meth c Q A ls hx hb hml hown hts hin hK hP hD hA hE hO hS hl hret
  have hown : s.vm.findClass RX7 = some m.cls := hown
  have hiX7 : ∀ w ∈ wsX70, w ∈ wsX7_isEnd := fun _ h9 => List.mem_cons_of_mem _ (List.mem_append_right _ h9)
  have hl : lv_has ls 1 [(0, .ref tk)] := hl
  refine lv_aload_n hx hb dX7_isEnd_0 rfl (lv_at hl 0 rfl) ?_
  refine va_get (D := D) (ci := 7) (v := .int tkk) (C := RX7) (T := TX7) (N := 10) hx hb hts hiX7 hown hK hP 0 rfl rfl 3 (by decide) (hts _ (List.mem_of_getElem? (i := 1) rfl)) (fun _ h9 => h9) rfl dX7_isEnd_1 ?_
  refine lv_if_ne (tgt := 11) hx hb dX7_isEnd_4 (by decide) (fun c_1 => ?_) (fun c_1 => ?_)
  · skip
    have h_2 : z_in 1 4 tkk := z_neLo c_1 htkk (z_lit (x := 0) (a := 0) (b := 0) rfl) rfl
    refine lv_iconst (v := 0) hx hb dX7_isEnd_11 (by decide) ?_
    exact hret 0 ([(tk, .inr (7, [.ref ta, .int tkm, .int tkb, .int tkk, .int tka, .int tkv, .long tkc, .ref (ad tkw), .int tkf, .int tkg])), (ta, .inr (6, [.ref tab, .int tan])), (tab, .inl (tabt, 940, .inl tabf))], []) _ _ _ _ dX7_isEnd_12 (by decide) ⟨(z_w (c := 0) (d := 1) (z_lit (x := 0) (a := 0) (b := 0) rfl) rfl), (fun _ => h_2), (fun h9 => absurd h9 (by decide)), (z_SE0 hctk c_1 htan htkm), rfl⟩ hP (hK.sub [] rfl) hD hS
  · skip
    have h_3 : z_in 0 0 tkk := z_leL (Int32.le_of_eq c_1) htkk (z_lit (x := 0) (a := 0) (b := 0) rfl) rfl
    refine lv_iconst (v := 1) hx hb dX7_isEnd_7 (by decide) ?_
    refine lv_goto (tgt := 12) hx hb dX7_isEnd_8 (by decide) ?_
    exact hret 1 ([(tk, .inr (7, [.ref ta, .int tkm, .int tkb, .int tkk, .int tka, .int tkv, .long tkc, .ref (ad tkw), .int tkf, .int tkg])), (ta, .inr (6, [.ref tab, .int tan])), (tab, .inl (tabt, 940, .inl tabf))], []) _ _ _ _ dX7_isEnd_12 (by decide) ⟨(z_w (c := 0) (d := 1) (z_lit (x := 1) (a := 1) (b := 1) rfl) rfl), (fun h9 => absurd h9 (by decide)), (fun _ => h_3), (z_SE1 hctk (z_eqk h_3 rfl) htan htkm), rfl⟩ hP (hK.sub [] rfl) hD hS
