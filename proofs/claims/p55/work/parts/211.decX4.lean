/-! decode rows, out of the printed names -/
theorem dX4_init_0 : decode cX4_init 0 = .ok (.aload_n 0, 1) := by decide +kernel
theorem dX4_init_1 : decode cX4_init 1 = .ok (.invokespecial 3, 3) := by decide +kernel
theorem dX4_init_4 : decode cX4_init 4 = .ok (.aload_n 0, 1) := by decide +kernel
theorem dX4_init_5 : decode cX4_init 5 = .ok (.ldc 9, 2) := by decide +kernel
theorem dX4_init_7 : decode cX4_init 7 = .ok (.putfield 11, 3) := by decide +kernel
theorem dX4_init_10 : decode cX4_init 10 = .ok (.aload_n 0, 1) := by decide +kernel
theorem dX4_init_11 : decode cX4_init 11 = .ok (.bipush 6, 2) := by decide +kernel
theorem dX4_init_13 : decode cX4_init 13 = .ok (.newarray .int, 2) := by decide +kernel
theorem dX4_init_15 : decode cX4_init 15 = .ok (.putfield 17, 3) := by decide +kernel
theorem dX4_init_18 : decode cX4_init 18 = .ok (.aload_n 0, 1) := by decide +kernel
theorem dX4_init_19 : decode cX4_init 19 = .ok (.bipush 48, 2) := by decide +kernel
theorem dX4_init_21 : decode cX4_init 21 = .ok (.newarray .int, 2) := by decide +kernel
theorem dX4_init_23 : decode cX4_init 23 = .ok (.putfield 21, 3) := by decide +kernel
theorem dX4_init_26 : decode cX4_init 26 = .ok (.return_, 1) := by decide +kernel
theorem dX4_copyFrom_0 : decode cX4_copyFrom 0 = .ok (.aload_n 0, 1) := by decide +kernel
theorem dX4_copyFrom_1 : decode cX4_copyFrom 1 = .ok (.aload_n 1, 1) := by decide +kernel
theorem dX4_copyFrom_2 : decode cX4_copyFrom 2 = .ok (.getfield 11, 3) := by decide +kernel
theorem dX4_copyFrom_5 : decode cX4_copyFrom 5 = .ok (.putfield 11, 3) := by decide +kernel
theorem dX4_copyFrom_8 : decode cX4_copyFrom 8 = .ok (.aload_n 0, 1) := by decide +kernel
theorem dX4_copyFrom_9 : decode cX4_copyFrom 9 = .ok (.aload_n 1, 1) := by decide +kernel
theorem dX4_copyFrom_10 : decode cX4_copyFrom 10 = .ok (.getfield 24, 3) := by decide +kernel
theorem dX4_copyFrom_13 : decode cX4_copyFrom 13 = .ok (.putfield 24, 3) := by decide +kernel
theorem dX4_copyFrom_16 : decode cX4_copyFrom 16 = .ok (.aload_n 0, 1) := by decide +kernel
theorem dX4_copyFrom_17 : decode cX4_copyFrom 17 = .ok (.aload_n 1, 1) := by decide +kernel
theorem dX4_copyFrom_18 : decode cX4_copyFrom 18 = .ok (.getfield 28, 3) := by decide +kernel
theorem dX4_copyFrom_21 : decode cX4_copyFrom 21 = .ok (.putfield 28, 3) := by decide +kernel
theorem dX4_copyFrom_24 : decode cX4_copyFrom 24 = .ok (.aload_n 0, 1) := by decide +kernel
theorem dX4_copyFrom_25 : decode cX4_copyFrom 25 = .ok (.aload_n 1, 1) := by decide +kernel
theorem dX4_copyFrom_26 : decode cX4_copyFrom 26 = .ok (.getfield 31, 3) := by decide +kernel
theorem dX4_copyFrom_29 : decode cX4_copyFrom 29 = .ok (.putfield 31, 3) := by decide +kernel
theorem dX4_copyFrom_32 : decode cX4_copyFrom 32 = .ok (.aload_n 0, 1) := by decide +kernel
theorem dX4_copyFrom_33 : decode cX4_copyFrom 33 = .ok (.aload_n 1, 1) := by decide +kernel
theorem dX4_copyFrom_34 : decode cX4_copyFrom 34 = .ok (.getfield 34, 3) := by decide +kernel
theorem dX4_copyFrom_37 : decode cX4_copyFrom 37 = .ok (.putfield 34, 3) := by decide +kernel
theorem dX4_copyFrom_40 : decode cX4_copyFrom 40 = .ok (.aload_n 0, 1) := by decide +kernel
theorem dX4_copyFrom_41 : decode cX4_copyFrom 41 = .ok (.aload_n 1, 1) := by decide +kernel
theorem dX4_copyFrom_42 : decode cX4_copyFrom 42 = .ok (.getfield 37, 3) := by decide +kernel
theorem dX4_copyFrom_45 : decode cX4_copyFrom 45 = .ok (.putfield 37, 3) := by decide +kernel
theorem dX4_copyFrom_48 : decode cX4_copyFrom 48 = .ok (.aload_n 0, 1) := by decide +kernel
theorem dX4_copyFrom_49 : decode cX4_copyFrom 49 = .ok (.aload_n 1, 1) := by decide +kernel
theorem dX4_copyFrom_50 : decode cX4_copyFrom 50 = .ok (.getfield 40, 3) := by decide +kernel
theorem dX4_copyFrom_53 : decode cX4_copyFrom 53 = .ok (.putfield 40, 3) := by decide +kernel
theorem dX4_copyFrom_56 : decode cX4_copyFrom 56 = .ok (.aload_n 0, 1) := by decide +kernel
theorem dX4_copyFrom_57 : decode cX4_copyFrom 57 = .ok (.aload_n 1, 1) := by decide +kernel
theorem dX4_copyFrom_58 : decode cX4_copyFrom 58 = .ok (.getfield 44, 3) := by decide +kernel
theorem dX4_copyFrom_61 : decode cX4_copyFrom 61 = .ok (.putfield 44, 3) := by decide +kernel
theorem dX4_copyFrom_64 : decode cX4_copyFrom 64 = .ok (.aload_n 0, 1) := by decide +kernel
theorem dX4_copyFrom_65 : decode cX4_copyFrom 65 = .ok (.aload_n 1, 1) := by decide +kernel
theorem dX4_copyFrom_66 : decode cX4_copyFrom 66 = .ok (.getfield 47, 3) := by decide +kernel
theorem dX4_copyFrom_69 : decode cX4_copyFrom 69 = .ok (.putfield 47, 3) := by decide +kernel
theorem dX4_copyFrom_72 : decode cX4_copyFrom 72 = .ok (.aload_n 0, 1) := by decide +kernel
theorem dX4_copyFrom_73 : decode cX4_copyFrom 73 = .ok (.aload_n 1, 1) := by decide +kernel
theorem dX4_copyFrom_74 : decode cX4_copyFrom 74 = .ok (.getfield 50, 3) := by decide +kernel
theorem dX4_copyFrom_77 : decode cX4_copyFrom 77 = .ok (.putfield 50, 3) := by decide +kernel
theorem dX4_copyFrom_80 : decode cX4_copyFrom 80 = .ok (.aload_n 0, 1) := by decide +kernel
theorem dX4_copyFrom_81 : decode cX4_copyFrom 81 = .ok (.aload_n 1, 1) := by decide +kernel
theorem dX4_copyFrom_82 : decode cX4_copyFrom 82 = .ok (.getfield 53, 3) := by decide +kernel
theorem dX4_copyFrom_85 : decode cX4_copyFrom 85 = .ok (.putfield 53, 3) := by decide +kernel
theorem dX4_copyFrom_88 : decode cX4_copyFrom 88 = .ok (.aload_n 0, 1) := by decide +kernel
theorem dX4_copyFrom_89 : decode cX4_copyFrom 89 = .ok (.aload_n 1, 1) := by decide +kernel
theorem dX4_copyFrom_90 : decode cX4_copyFrom 90 = .ok (.getfield 56, 3) := by decide +kernel
theorem dX4_copyFrom_93 : decode cX4_copyFrom 93 = .ok (.putfield 56, 3) := by decide +kernel
theorem dX4_copyFrom_96 : decode cX4_copyFrom 96 = .ok (.aload_n 1, 1) := by decide +kernel
theorem dX4_copyFrom_97 : decode cX4_copyFrom 97 = .ok (.getfield 17, 3) := by decide +kernel
theorem dX4_copyFrom_100 : decode cX4_copyFrom 100 = .ok (.iconst 0, 1) := by decide +kernel
theorem dX4_copyFrom_101 : decode cX4_copyFrom 101 = .ok (.aload_n 0, 1) := by decide +kernel
theorem dX4_copyFrom_102 : decode cX4_copyFrom 102 = .ok (.getfield 17, 3) := by decide +kernel
theorem dX4_copyFrom_105 : decode cX4_copyFrom 105 = .ok (.iconst 0, 1) := by decide +kernel
theorem dX4_copyFrom_106 : decode cX4_copyFrom 106 = .ok (.bipush 6, 2) := by decide +kernel
theorem dX4_copyFrom_108 : decode cX4_copyFrom 108 = .ok (.invokestatic 59, 3) := by decide +kernel
theorem dX4_copyFrom_111 : decode cX4_copyFrom 111 = .ok (.aload_n 1, 1) := by decide +kernel
theorem dX4_copyFrom_112 : decode cX4_copyFrom 112 = .ok (.getfield 21, 3) := by decide +kernel
theorem dX4_copyFrom_115 : decode cX4_copyFrom 115 = .ok (.iconst 0, 1) := by decide +kernel
theorem dX4_copyFrom_116 : decode cX4_copyFrom 116 = .ok (.aload_n 0, 1) := by decide +kernel
theorem dX4_copyFrom_117 : decode cX4_copyFrom 117 = .ok (.getfield 21, 3) := by decide +kernel
theorem dX4_copyFrom_120 : decode cX4_copyFrom 120 = .ok (.iconst 0, 1) := by decide +kernel
theorem dX4_copyFrom_121 : decode cX4_copyFrom 121 = .ok (.bipush 48, 2) := by decide +kernel
theorem dX4_copyFrom_123 : decode cX4_copyFrom 123 = .ok (.invokestatic 59, 3) := by decide +kernel
theorem dX4_copyFrom_126 : decode cX4_copyFrom 126 = .ok (.aload_n 0, 1) := by decide +kernel
theorem dX4_copyFrom_127 : decode cX4_copyFrom 127 = .ok (.aload_n 1, 1) := by decide +kernel
theorem dX4_copyFrom_128 : decode cX4_copyFrom 128 = .ok (.getfield 65, 3) := by decide +kernel
theorem dX4_copyFrom_131 : decode cX4_copyFrom 131 = .ok (.putfield 65, 3) := by decide +kernel
theorem dX4_copyFrom_134 : decode cX4_copyFrom 134 = .ok (.return_, 1) := by decide +kernel
theorem dX4_startAs_0 : decode cX4_startAs 0 = .ok (.aload_n 0, 1) := by decide +kernel
theorem dX4_startAs_1 : decode cX4_startAs 1 = .ok (.aload_n 1, 1) := by decide +kernel
theorem dX4_startAs_2 : decode cX4_startAs 2 = .ok (.putfield 11, 3) := by decide +kernel
theorem dX4_startAs_5 : decode cX4_startAs 5 = .ok (.aload_n 0, 1) := by decide +kernel
theorem dX4_startAs_6 : decode cX4_startAs 6 = .ok (.iconst 0, 1) := by decide +kernel
theorem dX4_startAs_7 : decode cX4_startAs 7 = .ok (.putfield 40, 3) := by decide +kernel
theorem dX4_startAs_10 : decode cX4_startAs 10 = .ok (.aload_n 0, 1) := by decide +kernel
theorem dX4_startAs_11 : decode cX4_startAs 11 = .ok (.iconst 1, 1) := by decide +kernel
theorem dX4_startAs_12 : decode cX4_startAs 12 = .ok (.putfield 44, 3) := by decide +kernel
theorem dX4_startAs_15 : decode cX4_startAs 15 = .ok (.aload_n 0, 1) := by decide +kernel
theorem dX4_startAs_16 : decode cX4_startAs 16 = .ok (.iconst 0, 1) := by decide +kernel
theorem dX4_startAs_17 : decode cX4_startAs 17 = .ok (.putfield 47, 3) := by decide +kernel
theorem dX4_startAs_20 : decode cX4_startAs 20 = .ok (.aload_n 0, 1) := by decide +kernel
theorem dX4_startAs_21 : decode cX4_startAs 21 = .ok (.iconst 0, 1) := by decide +kernel
theorem dX4_startAs_22 : decode cX4_startAs 22 = .ok (.putfield 50, 3) := by decide +kernel
theorem dX4_startAs_25 : decode cX4_startAs 25 = .ok (.aload_n 0, 1) := by decide +kernel
theorem dX4_startAs_26 : decode cX4_startAs 26 = .ok (.iconst 0, 1) := by decide +kernel
theorem dX4_startAs_27 : decode cX4_startAs 27 = .ok (.putfield 53, 3) := by decide +kernel
theorem dX4_startAs_30 : decode cX4_startAs 30 = .ok (.aload_n 0, 1) := by decide +kernel
theorem dX4_startAs_31 : decode cX4_startAs 31 = .ok (.iconst 0, 1) := by decide +kernel
theorem dX4_startAs_32 : decode cX4_startAs 32 = .ok (.putfield 56, 3) := by decide +kernel
theorem dX4_startAs_35 : decode cX4_startAs 35 = .ok (.aload_n 0, 1) := by decide +kernel
theorem dX4_startAs_36 : decode cX4_startAs 36 = .ok (.iconst 0, 1) := by decide +kernel
theorem dX4_startAs_37 : decode cX4_startAs 37 = .ok (.putfield 65, 3) := by decide +kernel
theorem dX4_startAs_40 : decode cX4_startAs 40 = .ok (.iconst 0, 1) := by decide +kernel
theorem dX4_startAs_41 : decode cX4_startAs 41 = .ok (.istore_n 2, 1) := by decide +kernel
theorem dX4_startAs_42 : decode cX4_startAs 42 = .ok (.iload_n 2, 1) := by decide +kernel
theorem dX4_startAs_43 : decode cX4_startAs 43 = .ok (.aload_n 0, 1) := by decide +kernel
theorem dX4_startAs_44 : decode cX4_startAs 44 = .ok (.getfield 17, 3) := by decide +kernel
theorem dX4_startAs_47 : decode cX4_startAs 47 = .ok (.arraylength, 1) := by decide +kernel
theorem dX4_startAs_48 : decode cX4_startAs 48 = .ok (.if_icmp .ge 16, 3) := by decide +kernel
theorem dX4_startAs_51 : decode cX4_startAs 51 = .ok (.aload_n 0, 1) := by decide +kernel
theorem dX4_startAs_52 : decode cX4_startAs 52 = .ok (.getfield 17, 3) := by decide +kernel
theorem dX4_startAs_55 : decode cX4_startAs 55 = .ok (.iload_n 2, 1) := by decide +kernel
theorem dX4_startAs_56 : decode cX4_startAs 56 = .ok (.iconst 0, 1) := by decide +kernel
theorem dX4_startAs_57 : decode cX4_startAs 57 = .ok (.iastore, 1) := by decide +kernel
theorem dX4_startAs_58 : decode cX4_startAs 58 = .ok (.iinc 2 1, 3) := by decide +kernel
theorem dX4_startAs_61 : decode cX4_startAs 61 = .ok (.goto (-19), 3) := by decide +kernel
theorem dX4_startAs_64 : decode cX4_startAs 64 = .ok (.return_, 1) := by decide +kernel
theorem dX4_placeOf_0 : decode cX4_placeOf 0 = .ok (.iconst 0, 1) := by decide +kernel
theorem dX4_placeOf_1 : decode cX4_placeOf 1 = .ok (.istore_n 2, 1) := by decide +kernel
theorem dX4_placeOf_2 : decode cX4_placeOf 2 = .ok (.iload_n 2, 1) := by decide +kernel
theorem dX4_placeOf_3 : decode cX4_placeOf 3 = .ok (.aload_n 0, 1) := by decide +kernel
theorem dX4_placeOf_4 : decode cX4_placeOf 4 = .ok (.getfield 65, 3) := by decide +kernel
theorem dX4_placeOf_7 : decode cX4_placeOf 7 = .ok (.if_icmp .ge 23, 3) := by decide +kernel
theorem dX4_placeOf_10 : decode cX4_placeOf 10 = .ok (.aload_n 0, 1) := by decide +kernel
theorem dX4_placeOf_11 : decode cX4_placeOf 11 = .ok (.getfield 21, 3) := by decide +kernel
theorem dX4_placeOf_14 : decode cX4_placeOf 14 = .ok (.iload_n 2, 1) := by decide +kernel
theorem dX4_placeOf_15 : decode cX4_placeOf 15 = .ok (.iaload, 1) := by decide +kernel
theorem dX4_placeOf_16 : decode cX4_placeOf 16 = .ok (.iload_n 1, 1) := by decide +kernel
theorem dX4_placeOf_17 : decode cX4_placeOf 17 = .ok (.sipush 1000, 3) := by decide +kernel
theorem dX4_placeOf_20 : decode cX4_placeOf 20 = .ok (.imul, 1) := by decide +kernel
theorem dX4_placeOf_21 : decode cX4_placeOf 21 = .ok (.if_icmp .ge 9, 3) := by decide +kernel
theorem dX4_placeOf_24 : decode cX4_placeOf 24 = .ok (.iinc 2 1, 3) := by decide +kernel
theorem dX4_placeOf_27 : decode cX4_placeOf 27 = .ok (.goto (-25), 3) := by decide +kernel
theorem dX4_placeOf_30 : decode cX4_placeOf 30 = .ok (.iload_n 2, 1) := by decide +kernel
theorem dX4_placeOf_31 : decode cX4_placeOf 31 = .ok (.ireturn, 1) := by decide +kernel
theorem dX4_isEntryOf_0 : decode cX4_isEntryOf 0 = .ok (.iload_n 2, 1) := by decide +kernel
theorem dX4_isEntryOf_1 : decode cX4_isEntryOf 1 = .ok (.aload_n 0, 1) := by decide +kernel
theorem dX4_isEntryOf_2 : decode cX4_isEntryOf 2 = .ok (.getfield 65, 3) := by decide +kernel
theorem dX4_isEntryOf_5 : decode cX4_isEntryOf 5 = .ok (.if_icmp .ge 21, 3) := by decide +kernel
theorem dX4_isEntryOf_8 : decode cX4_isEntryOf 8 = .ok (.aload_n 0, 1) := by decide +kernel
theorem dX4_isEntryOf_9 : decode cX4_isEntryOf 9 = .ok (.getfield 21, 3) := by decide +kernel
theorem dX4_isEntryOf_12 : decode cX4_isEntryOf 12 = .ok (.iload_n 2, 1) := by decide +kernel
theorem dX4_isEntryOf_13 : decode cX4_isEntryOf 13 = .ok (.iaload, 1) := by decide +kernel
theorem dX4_isEntryOf_14 : decode cX4_isEntryOf 14 = .ok (.sipush 1000, 3) := by decide +kernel
theorem dX4_isEntryOf_17 : decode cX4_isEntryOf 17 = .ok (.idiv, 1) := by decide +kernel
theorem dX4_isEntryOf_18 : decode cX4_isEntryOf 18 = .ok (.iload_n 1, 1) := by decide +kernel
theorem dX4_isEntryOf_19 : decode cX4_isEntryOf 19 = .ok (.if_icmp .ne 7, 3) := by decide +kernel
theorem dX4_isEntryOf_22 : decode cX4_isEntryOf 22 = .ok (.iconst 1, 1) := by decide +kernel
theorem dX4_isEntryOf_23 : decode cX4_isEntryOf 23 = .ok (.goto 4, 3) := by decide +kernel
theorem dX4_isEntryOf_26 : decode cX4_isEntryOf 26 = .ok (.iconst 0, 1) := by decide +kernel
theorem dX4_isEntryOf_27 : decode cX4_isEntryOf 27 = .ok (.ireturn, 1) := by decide +kernel
theorem dX4_toldAt_0 : decode cX4_toldAt 0 = .ok (.aload_n 0, 1) := by decide +kernel
theorem dX4_toldAt_1 : decode cX4_toldAt 1 = .ok (.iload_n 1, 1) := by decide +kernel
theorem dX4_toldAt_2 : decode cX4_toldAt 2 = .ok (.invokevirtual 68, 3) := by decide +kernel
theorem dX4_toldAt_5 : decode cX4_toldAt 5 = .ok (.istore_n 2, 1) := by decide +kernel
theorem dX4_toldAt_6 : decode cX4_toldAt 6 = .ok (.aload_n 0, 1) := by decide +kernel
theorem dX4_toldAt_7 : decode cX4_toldAt 7 = .ok (.iload_n 1, 1) := by decide +kernel
theorem dX4_toldAt_8 : decode cX4_toldAt 8 = .ok (.iload_n 2, 1) := by decide +kernel
theorem dX4_toldAt_9 : decode cX4_toldAt 9 = .ok (.invokevirtual 72, 3) := by decide +kernel
theorem dX4_toldAt_12 : decode cX4_toldAt 12 = .ok (.ifCond .eq 16, 3) := by decide +kernel
theorem dX4_toldAt_15 : decode cX4_toldAt 15 = .ok (.aload_n 0, 1) := by decide +kernel
theorem dX4_toldAt_16 : decode cX4_toldAt 16 = .ok (.getfield 21, 3) := by decide +kernel
theorem dX4_toldAt_19 : decode cX4_toldAt 19 = .ok (.iload_n 2, 1) := by decide +kernel
theorem dX4_toldAt_20 : decode cX4_toldAt 20 = .ok (.iaload, 1) := by decide +kernel
theorem dX4_toldAt_21 : decode cX4_toldAt 21 = .ok (.sipush 1000, 3) := by decide +kernel
theorem dX4_toldAt_24 : decode cX4_toldAt 24 = .ok (.irem, 1) := by decide +kernel
theorem dX4_toldAt_25 : decode cX4_toldAt 25 = .ok (.goto 4, 3) := by decide +kernel
theorem dX4_toldAt_28 : decode cX4_toldAt 28 = .ok (.iconst (-1), 1) := by decide +kernel
theorem dX4_toldAt_29 : decode cX4_toldAt 29 = .ok (.ireturn, 1) := by decide +kernel
theorem dX4_programmedAt_0 : decode cX4_programmedAt 0 = .ok (.aload_n 0, 1) := by decide +kernel
theorem dX4_programmedAt_1 : decode cX4_programmedAt 1 = .ok (.getfield 65, 3) := by decide +kernel
theorem dX4_programmedAt_4 : decode cX4_programmedAt 4 = .ok (.ifCond .ne 7, 3) := by decide +kernel
theorem dX4_programmedAt_7 : decode cX4_programmedAt 7 = .ok (.sipush 200, 3) := by decide +kernel
theorem dX4_programmedAt_10 : decode cX4_programmedAt 10 = .ok (.ireturn, 1) := by decide +kernel
theorem dX4_programmedAt_11 : decode cX4_programmedAt 11 = .ok (.aload_n 0, 1) := by decide +kernel
theorem dX4_programmedAt_12 : decode cX4_programmedAt 12 = .ok (.getfield 65, 3) := by decide +kernel
theorem dX4_programmedAt_15 : decode cX4_programmedAt 15 = .ok (.iconst 1, 1) := by decide +kernel
theorem dX4_programmedAt_16 : decode cX4_programmedAt 16 = .ok (.isub, 1) := by decide +kernel
theorem dX4_programmedAt_17 : decode cX4_programmedAt 17 = .ok (.istore_n 2, 1) := by decide +kernel
theorem dX4_programmedAt_18 : decode cX4_programmedAt 18 = .ok (.iload_n 2, 1) := by decide +kernel
theorem dX4_programmedAt_19 : decode cX4_programmedAt 19 = .ok (.ifCond .lt 36, 3) := by decide +kernel
theorem dX4_programmedAt_22 : decode cX4_programmedAt 22 = .ok (.aload_n 0, 1) := by decide +kernel
theorem dX4_programmedAt_23 : decode cX4_programmedAt 23 = .ok (.getfield 21, 3) := by decide +kernel
theorem dX4_programmedAt_26 : decode cX4_programmedAt 26 = .ok (.iload_n 2, 1) := by decide +kernel
theorem dX4_programmedAt_27 : decode cX4_programmedAt 27 = .ok (.iaload, 1) := by decide +kernel
theorem dX4_programmedAt_28 : decode cX4_programmedAt 28 = .ok (.iload_n 1, 1) := by decide +kernel
theorem dX4_programmedAt_29 : decode cX4_programmedAt 29 = .ok (.iconst 1, 1) := by decide +kernel
theorem dX4_programmedAt_30 : decode cX4_programmedAt 30 = .ok (.iadd, 1) := by decide +kernel
theorem dX4_programmedAt_31 : decode cX4_programmedAt 31 = .ok (.sipush 1000, 3) := by decide +kernel
theorem dX4_programmedAt_34 : decode cX4_programmedAt 34 = .ok (.imul, 1) := by decide +kernel
theorem dX4_programmedAt_35 : decode cX4_programmedAt 35 = .ok (.if_icmp .ge 14, 3) := by decide +kernel
theorem dX4_programmedAt_38 : decode cX4_programmedAt 38 = .ok (.aload_n 0, 1) := by decide +kernel
theorem dX4_programmedAt_39 : decode cX4_programmedAt 39 = .ok (.getfield 21, 3) := by decide +kernel
theorem dX4_programmedAt_42 : decode cX4_programmedAt 42 = .ok (.iload_n 2, 1) := by decide +kernel
theorem dX4_programmedAt_43 : decode cX4_programmedAt 43 = .ok (.iaload, 1) := by decide +kernel
theorem dX4_programmedAt_44 : decode cX4_programmedAt 44 = .ok (.sipush 1000, 3) := by decide +kernel
theorem dX4_programmedAt_47 : decode cX4_programmedAt 47 = .ok (.irem, 1) := by decide +kernel
theorem dX4_programmedAt_48 : decode cX4_programmedAt 48 = .ok (.ireturn, 1) := by decide +kernel
theorem dX4_programmedAt_49 : decode cX4_programmedAt 49 = .ok (.iinc 2 (-1), 3) := by decide +kernel
theorem dX4_programmedAt_52 : decode cX4_programmedAt 52 = .ok (.goto (-34), 3) := by decide +kernel
theorem dX4_programmedAt_55 : decode cX4_programmedAt 55 = .ok (.aload_n 0, 1) := by decide +kernel
theorem dX4_programmedAt_56 : decode cX4_programmedAt 56 = .ok (.getfield 21, 3) := by decide +kernel
theorem dX4_programmedAt_59 : decode cX4_programmedAt 59 = .ok (.aload_n 0, 1) := by decide +kernel
theorem dX4_programmedAt_60 : decode cX4_programmedAt 60 = .ok (.getfield 65, 3) := by decide +kernel
theorem dX4_programmedAt_63 : decode cX4_programmedAt 63 = .ok (.iconst 1, 1) := by decide +kernel
theorem dX4_programmedAt_64 : decode cX4_programmedAt 64 = .ok (.isub, 1) := by decide +kernel
theorem dX4_programmedAt_65 : decode cX4_programmedAt 65 = .ok (.iaload, 1) := by decide +kernel
theorem dX4_programmedAt_66 : decode cX4_programmedAt 66 = .ok (.sipush 1000, 3) := by decide +kernel
theorem dX4_programmedAt_69 : decode cX4_programmedAt 69 = .ok (.irem, 1) := by decide +kernel
theorem dX4_programmedAt_70 : decode cX4_programmedAt 70 = .ok (.ireturn, 1) := by decide +kernel
theorem dX4_putEntry_0 : decode cX4_putEntry 0 = .ok (.aload_n 0, 1) := by decide +kernel
theorem dX4_putEntry_1 : decode cX4_putEntry 1 = .ok (.iload_n 1, 1) := by decide +kernel
theorem dX4_putEntry_2 : decode cX4_putEntry 2 = .ok (.invokevirtual 68, 3) := by decide +kernel
theorem dX4_putEntry_5 : decode cX4_putEntry 5 = .ok (.istore_n 3, 1) := by decide +kernel
theorem dX4_putEntry_6 : decode cX4_putEntry 6 = .ok (.aload_n 0, 1) := by decide +kernel
theorem dX4_putEntry_7 : decode cX4_putEntry 7 = .ok (.iload_n 1, 1) := by decide +kernel
theorem dX4_putEntry_8 : decode cX4_putEntry 8 = .ok (.iload_n 3, 1) := by decide +kernel
theorem dX4_putEntry_9 : decode cX4_putEntry 9 = .ok (.invokevirtual 72, 3) := by decide +kernel
theorem dX4_putEntry_12 : decode cX4_putEntry 12 = .ok (.ifCond .ne 47, 3) := by decide +kernel
theorem dX4_putEntry_15 : decode cX4_putEntry 15 = .ok (.aload_n 0, 1) := by decide +kernel
theorem dX4_putEntry_16 : decode cX4_putEntry 16 = .ok (.getfield 65, 3) := by decide +kernel
theorem dX4_putEntry_19 : decode cX4_putEntry 19 = .ok (.istore 4, 2) := by decide +kernel
theorem dX4_putEntry_21 : decode cX4_putEntry 21 = .ok (.iload 4, 2) := by decide +kernel
theorem dX4_putEntry_23 : decode cX4_putEntry 23 = .ok (.iload_n 3, 1) := by decide +kernel
theorem dX4_putEntry_24 : decode cX4_putEntry 24 = .ok (.if_icmp .le 25, 3) := by decide +kernel
theorem dX4_putEntry_27 : decode cX4_putEntry 27 = .ok (.aload_n 0, 1) := by decide +kernel
theorem dX4_putEntry_28 : decode cX4_putEntry 28 = .ok (.getfield 21, 3) := by decide +kernel
theorem dX4_putEntry_31 : decode cX4_putEntry 31 = .ok (.iload 4, 2) := by decide +kernel
theorem dX4_putEntry_33 : decode cX4_putEntry 33 = .ok (.aload_n 0, 1) := by decide +kernel
theorem dX4_putEntry_34 : decode cX4_putEntry 34 = .ok (.getfield 21, 3) := by decide +kernel
theorem dX4_putEntry_37 : decode cX4_putEntry 37 = .ok (.iload 4, 2) := by decide +kernel
theorem dX4_putEntry_39 : decode cX4_putEntry 39 = .ok (.iconst 1, 1) := by decide +kernel
theorem dX4_putEntry_40 : decode cX4_putEntry 40 = .ok (.isub, 1) := by decide +kernel
theorem dX4_putEntry_41 : decode cX4_putEntry 41 = .ok (.iaload, 1) := by decide +kernel
theorem dX4_putEntry_42 : decode cX4_putEntry 42 = .ok (.iastore, 1) := by decide +kernel
theorem dX4_putEntry_43 : decode cX4_putEntry 43 = .ok (.iinc 4 (-1), 3) := by decide +kernel
theorem dX4_putEntry_46 : decode cX4_putEntry 46 = .ok (.goto (-25), 3) := by decide +kernel
theorem dX4_putEntry_49 : decode cX4_putEntry 49 = .ok (.aload_n 0, 1) := by decide +kernel
theorem dX4_putEntry_50 : decode cX4_putEntry 50 = .ok (.dup, 1) := by decide +kernel
theorem dX4_putEntry_51 : decode cX4_putEntry 51 = .ok (.getfield 65, 3) := by decide +kernel
theorem dX4_putEntry_54 : decode cX4_putEntry 54 = .ok (.iconst 1, 1) := by decide +kernel
theorem dX4_putEntry_55 : decode cX4_putEntry 55 = .ok (.iadd, 1) := by decide +kernel
theorem dX4_putEntry_56 : decode cX4_putEntry 56 = .ok (.putfield 65, 3) := by decide +kernel
theorem dX4_putEntry_59 : decode cX4_putEntry 59 = .ok (.aload_n 0, 1) := by decide +kernel
theorem dX4_putEntry_60 : decode cX4_putEntry 60 = .ok (.getfield 21, 3) := by decide +kernel
theorem dX4_putEntry_63 : decode cX4_putEntry 63 = .ok (.iload_n 3, 1) := by decide +kernel
theorem dX4_putEntry_64 : decode cX4_putEntry 64 = .ok (.iload_n 1, 1) := by decide +kernel
theorem dX4_putEntry_65 : decode cX4_putEntry 65 = .ok (.sipush 1000, 3) := by decide +kernel
theorem dX4_putEntry_68 : decode cX4_putEntry 68 = .ok (.imul, 1) := by decide +kernel
theorem dX4_putEntry_69 : decode cX4_putEntry 69 = .ok (.iload_n 2, 1) := by decide +kernel
theorem dX4_putEntry_70 : decode cX4_putEntry 70 = .ok (.iadd, 1) := by decide +kernel
theorem dX4_putEntry_71 : decode cX4_putEntry 71 = .ok (.iastore, 1) := by decide +kernel
theorem dX4_putEntry_72 : decode cX4_putEntry 72 = .ok (.return_, 1) := by decide +kernel
theorem dX4_removeEntry_0 : decode cX4_removeEntry 0 = .ok (.aload_n 0, 1) := by decide +kernel
theorem dX4_removeEntry_1 : decode cX4_removeEntry 1 = .ok (.dup, 1) := by decide +kernel
theorem dX4_removeEntry_2 : decode cX4_removeEntry 2 = .ok (.getfield 65, 3) := by decide +kernel
theorem dX4_removeEntry_5 : decode cX4_removeEntry 5 = .ok (.iconst 1, 1) := by decide +kernel
theorem dX4_removeEntry_6 : decode cX4_removeEntry 6 = .ok (.isub, 1) := by decide +kernel
theorem dX4_removeEntry_7 : decode cX4_removeEntry 7 = .ok (.putfield 65, 3) := by decide +kernel
theorem dX4_removeEntry_10 : decode cX4_removeEntry 10 = .ok (.iload_n 1, 1) := by decide +kernel
theorem dX4_removeEntry_11 : decode cX4_removeEntry 11 = .ok (.istore_n 2, 1) := by decide +kernel
theorem dX4_removeEntry_12 : decode cX4_removeEntry 12 = .ok (.iload_n 2, 1) := by decide +kernel
theorem dX4_removeEntry_13 : decode cX4_removeEntry 13 = .ok (.aload_n 0, 1) := by decide +kernel
theorem dX4_removeEntry_14 : decode cX4_removeEntry 14 = .ok (.getfield 65, 3) := by decide +kernel
theorem dX4_removeEntry_17 : decode cX4_removeEntry 17 = .ok (.if_icmp .ge 23, 3) := by decide +kernel
theorem dX4_removeEntry_20 : decode cX4_removeEntry 20 = .ok (.aload_n 0, 1) := by decide +kernel
theorem dX4_removeEntry_21 : decode cX4_removeEntry 21 = .ok (.getfield 21, 3) := by decide +kernel
theorem dX4_removeEntry_24 : decode cX4_removeEntry 24 = .ok (.iload_n 2, 1) := by decide +kernel
theorem dX4_removeEntry_25 : decode cX4_removeEntry 25 = .ok (.aload_n 0, 1) := by decide +kernel
theorem dX4_removeEntry_26 : decode cX4_removeEntry 26 = .ok (.getfield 21, 3) := by decide +kernel
theorem dX4_removeEntry_29 : decode cX4_removeEntry 29 = .ok (.iload_n 2, 1) := by decide +kernel
theorem dX4_removeEntry_30 : decode cX4_removeEntry 30 = .ok (.iconst 1, 1) := by decide +kernel
theorem dX4_removeEntry_31 : decode cX4_removeEntry 31 = .ok (.iadd, 1) := by decide +kernel
theorem dX4_removeEntry_32 : decode cX4_removeEntry 32 = .ok (.iaload, 1) := by decide +kernel
theorem dX4_removeEntry_33 : decode cX4_removeEntry 33 = .ok (.iastore, 1) := by decide +kernel
theorem dX4_removeEntry_34 : decode cX4_removeEntry 34 = .ok (.iinc 2 1, 3) := by decide +kernel
theorem dX4_removeEntry_37 : decode cX4_removeEntry 37 = .ok (.goto (-25), 3) := by decide +kernel
theorem dX4_removeEntry_40 : decode cX4_removeEntry 40 = .ok (.return_, 1) := by decide +kernel
theorem dX4_drive_0 : decode cX4_drive 0 = .ok (.iload_n 1, 1) := by decide +kernel
theorem dX4_drive_1 : decode cX4_drive 1 = .ok (.aload_n 0, 1) := by decide +kernel
theorem dX4_drive_2 : decode cX4_drive 2 = .ok (.getfield 28, 3) := by decide +kernel
theorem dX4_drive_5 : decode cX4_drive 5 = .ok (.isub, 1) := by decide +kernel
theorem dX4_drive_6 : decode cX4_drive 6 = .ok (.invokestatic 76, 3) := by decide +kernel
theorem dX4_drive_9 : decode cX4_drive 9 = .ok (.iload_n 2, 1) := by decide +kernel
theorem dX4_drive_10 : decode cX4_drive 10 = .ok (.invokestatic 81, 3) := by decide +kernel
theorem dX4_drive_13 : decode cX4_drive 13 = .ok (.aload_n 0, 1) := by decide +kernel
theorem dX4_drive_14 : decode cX4_drive 14 = .ok (.getfield 31, 3) := by decide +kernel
theorem dX4_drive_17 : decode cX4_drive 17 = .ok (.invokestatic 81, 3) := by decide +kernel
theorem dX4_drive_20 : decode cX4_drive 20 = .ok (.istore_n 3, 1) := by decide +kernel
theorem dX4_drive_21 : decode cX4_drive 21 = .ok (.aload_n 0, 1) := by decide +kernel
theorem dX4_drive_22 : decode cX4_drive 22 = .ok (.dup, 1) := by decide +kernel
theorem dX4_drive_23 : decode cX4_drive 23 = .ok (.getfield 28, 3) := by decide +kernel
theorem dX4_drive_26 : decode cX4_drive 26 = .ok (.iload_n 1, 1) := by decide +kernel
theorem dX4_drive_27 : decode cX4_drive 27 = .ok (.aload_n 0, 1) := by decide +kernel
theorem dX4_drive_28 : decode cX4_drive 28 = .ok (.getfield 28, 3) := by decide +kernel
theorem dX4_drive_31 : decode cX4_drive 31 = .ok (.if_icmp .le 7, 3) := by decide +kernel
theorem dX4_drive_34 : decode cX4_drive 34 = .ok (.iload_n 3, 1) := by decide +kernel
theorem dX4_drive_35 : decode cX4_drive 35 = .ok (.goto 5, 3) := by decide +kernel
theorem dX4_drive_38 : decode cX4_drive 38 = .ok (.iload_n 3, 1) := by decide +kernel
theorem dX4_drive_39 : decode cX4_drive 39 = .ok (.ineg, 1) := by decide +kernel
theorem dX4_drive_40 : decode cX4_drive 40 = .ok (.iadd, 1) := by decide +kernel
theorem dX4_drive_41 : decode cX4_drive 41 = .ok (.putfield 28, 3) := by decide +kernel
theorem dX4_drive_44 : decode cX4_drive 44 = .ok (.aload_n 0, 1) := by decide +kernel
theorem dX4_drive_45 : decode cX4_drive 45 = .ok (.dup, 1) := by decide +kernel
theorem dX4_drive_46 : decode cX4_drive 46 = .ok (.getfield 31, 3) := by decide +kernel
theorem dX4_drive_49 : decode cX4_drive 49 = .ok (.iload_n 3, 1) := by decide +kernel
theorem dX4_drive_50 : decode cX4_drive 50 = .ok (.isub, 1) := by decide +kernel
theorem dX4_drive_51 : decode cX4_drive 51 = .ok (.putfield 31, 3) := by decide +kernel
theorem dX4_drive_54 : decode cX4_drive 54 = .ok (.aload_n 0, 1) := by decide +kernel
theorem dX4_drive_55 : decode cX4_drive 55 = .ok (.getfield 17, 3) := by decide +kernel
theorem dX4_drive_58 : decode cX4_drive 58 = .ok (.iconst 0, 1) := by decide +kernel
theorem dX4_drive_59 : decode cX4_drive 59 = .ok (.dup2, 1) := by decide +kernel
theorem dX4_drive_60 : decode cX4_drive 60 = .ok (.iaload, 1) := by decide +kernel
theorem dX4_drive_61 : decode cX4_drive 61 = .ok (.iload_n 3, 1) := by decide +kernel
theorem dX4_drive_62 : decode cX4_drive 62 = .ok (.iadd, 1) := by decide +kernel
theorem dX4_drive_63 : decode cX4_drive 63 = .ok (.iastore, 1) := by decide +kernel
theorem dX4_drive_64 : decode cX4_drive 64 = .ok (.iload_n 3, 1) := by decide +kernel
theorem dX4_drive_65 : decode cX4_drive 65 = .ok (.ireturn, 1) := by decide +kernel
theorem dX4_driveForExercise_0 : decode cX4_driveForExercise 0 = .ok (.aload_n 0, 1) := by decide +kernel
theorem dX4_driveForExercise_1 : decode cX4_driveForExercise 1 = .ok (.getfield 28, 3) := by decide +kernel
theorem dX4_driveForExercise_4 : decode cX4_driveForExercise 4 = .ok (.istore_n 1, 1) := by decide +kernel
theorem dX4_driveForExercise_5 : decode cX4_driveForExercise 5 = .ok (.aload_n 0, 1) := by decide +kernel
theorem dX4_driveForExercise_6 : decode cX4_driveForExercise 6 = .ok (.bipush 100, 2) := by decide +kernel
theorem dX4_driveForExercise_8 : decode cX4_driveForExercise 8 = .ok (.bipush 100, 2) := by decide +kernel
theorem dX4_driveForExercise_10 : decode cX4_driveForExercise 10 = .ok (.invokevirtual 85, 3) := by decide +kernel
theorem dX4_driveForExercise_13 : decode cX4_driveForExercise 13 = .ok (.istore_n 2, 1) := by decide +kernel
theorem dX4_driveForExercise_14 : decode cX4_driveForExercise 14 = .ok (.iload_n 2, 1) := by decide +kernel
theorem dX4_driveForExercise_15 : decode cX4_driveForExercise 15 = .ok (.aload_n 0, 1) := by decide +kernel
theorem dX4_driveForExercise_16 : decode cX4_driveForExercise 16 = .ok (.iconst 0, 1) := by decide +kernel
theorem dX4_driveForExercise_17 : decode cX4_driveForExercise 17 = .ok (.bipush 100, 2) := by decide +kernel
theorem dX4_driveForExercise_19 : decode cX4_driveForExercise 19 = .ok (.invokevirtual 85, 3) := by decide +kernel
theorem dX4_driveForExercise_22 : decode cX4_driveForExercise 22 = .ok (.iadd, 1) := by decide +kernel
theorem dX4_driveForExercise_23 : decode cX4_driveForExercise 23 = .ok (.istore_n 2, 1) := by decide +kernel
theorem dX4_driveForExercise_24 : decode cX4_driveForExercise 24 = .ok (.iload_n 2, 1) := by decide +kernel
theorem dX4_driveForExercise_25 : decode cX4_driveForExercise 25 = .ok (.aload_n 0, 1) := by decide +kernel
theorem dX4_driveForExercise_26 : decode cX4_driveForExercise 26 = .ok (.iload_n 1, 1) := by decide +kernel
theorem dX4_driveForExercise_27 : decode cX4_driveForExercise 27 = .ok (.bipush 100, 2) := by decide +kernel
theorem dX4_driveForExercise_29 : decode cX4_driveForExercise 29 = .ok (.invokevirtual 85, 3) := by decide +kernel
theorem dX4_driveForExercise_32 : decode cX4_driveForExercise 32 = .ok (.iadd, 1) := by decide +kernel
theorem dX4_driveForExercise_33 : decode cX4_driveForExercise 33 = .ok (.istore_n 2, 1) := by decide +kernel
theorem dX4_driveForExercise_34 : decode cX4_driveForExercise 34 = .ok (.aload_n 0, 1) := by decide +kernel
theorem dX4_driveForExercise_35 : decode cX4_driveForExercise 35 = .ok (.getfield 17, 3) := by decide +kernel
theorem dX4_driveForExercise_38 : decode cX4_driveForExercise 38 = .ok (.iconst 2, 1) := by decide +kernel
theorem dX4_driveForExercise_39 : decode cX4_driveForExercise 39 = .ok (.dup2, 1) := by decide +kernel
theorem dX4_driveForExercise_40 : decode cX4_driveForExercise 40 = .ok (.iaload, 1) := by decide +kernel
theorem dX4_driveForExercise_41 : decode cX4_driveForExercise 41 = .ok (.iconst 1, 1) := by decide +kernel
theorem dX4_driveForExercise_42 : decode cX4_driveForExercise 42 = .ok (.iadd, 1) := by decide +kernel
theorem dX4_driveForExercise_43 : decode cX4_driveForExercise 43 = .ok (.iastore, 1) := by decide +kernel
theorem dX4_driveForExercise_44 : decode cX4_driveForExercise 44 = .ok (.iload_n 2, 1) := by decide +kernel
theorem dX4_driveForExercise_45 : decode cX4_driveForExercise 45 = .ok (.ireturn, 1) := by decide +kernel
