/-! decode rows, out of the printed names -/
theorem dX1_init_0 : decode cX1_init 0 = .ok (.aload_n 0, 1) := by decide +kernel
theorem dX1_init_1 : decode cX1_init 1 = .ok (.invokespecial 3, 3) := by decide +kernel
theorem dX1_init_4 : decode cX1_init 4 = .ok (.aload_n 0, 1) := by decide +kernel
theorem dX1_init_5 : decode cX1_init 5 = .ok (.bipush 6, 2) := by decide +kernel
theorem dX1_init_7 : decode cX1_init 7 = .ok (.anewarray 9, 3) := by decide +kernel
theorem dX1_init_10 : decode cX1_init 10 = .ok (.putfield 11, 3) := by decide +kernel
theorem dX1_init_13 : decode cX1_init 13 = .ok (.aload_n 0, 1) := by decide +kernel
theorem dX1_init_14 : decode cX1_init 14 = .ok (.bipush 20, 2) := by decide +kernel
theorem dX1_init_16 : decode cX1_init 16 = .ok (.newarray .int, 2) := by decide +kernel
theorem dX1_init_18 : decode cX1_init 18 = .ok (.putfield 17, 3) := by decide +kernel
theorem dX1_init_21 : decode cX1_init 21 = .ok (.aload_n 0, 1) := by decide +kernel
theorem dX1_init_22 : decode cX1_init 22 = .ok (.bipush 20, 2) := by decide +kernel
theorem dX1_init_24 : decode cX1_init 24 = .ok (.newarray .int, 2) := by decide +kernel
theorem dX1_init_26 : decode cX1_init 26 = .ok (.putfield 21, 3) := by decide +kernel
theorem dX1_init_29 : decode cX1_init 29 = .ok (.aload_n 0, 1) := by decide +kernel
theorem dX1_init_30 : decode cX1_init 30 = .ok (.bipush 20, 2) := by decide +kernel
theorem dX1_init_32 : decode cX1_init 32 = .ok (.newarray .int, 2) := by decide +kernel
theorem dX1_init_34 : decode cX1_init 34 = .ok (.putfield 24, 3) := by decide +kernel
theorem dX1_init_37 : decode cX1_init 37 = .ok (.iconst 0, 1) := by decide +kernel
theorem dX1_init_38 : decode cX1_init 38 = .ok (.istore_n 1, 1) := by decide +kernel
theorem dX1_init_39 : decode cX1_init 39 = .ok (.iload_n 1, 1) := by decide +kernel
theorem dX1_init_40 : decode cX1_init 40 = .ok (.aload_n 0, 1) := by decide +kernel
theorem dX1_init_41 : decode cX1_init 41 = .ok (.getfield 11, 3) := by decide +kernel
theorem dX1_init_44 : decode cX1_init 44 = .ok (.arraylength, 1) := by decide +kernel
theorem dX1_init_45 : decode cX1_init 45 = .ok (.if_icmp .ge 22, 3) := by decide +kernel
theorem dX1_init_48 : decode cX1_init 48 = .ok (.aload_n 0, 1) := by decide +kernel
theorem dX1_init_49 : decode cX1_init 49 = .ok (.getfield 11, 3) := by decide +kernel
theorem dX1_init_52 : decode cX1_init 52 = .ok (.iload_n 1, 1) := by decide +kernel
theorem dX1_init_53 : decode cX1_init 53 = .ok (.new 9, 3) := by decide +kernel
theorem dX1_init_56 : decode cX1_init 56 = .ok (.dup, 1) := by decide +kernel
theorem dX1_init_57 : decode cX1_init 57 = .ok (.invokespecial 27, 3) := by decide +kernel
theorem dX1_init_60 : decode cX1_init 60 = .ok (.aastore, 1) := by decide +kernel
theorem dX1_init_61 : decode cX1_init 61 = .ok (.iinc 1 1, 3) := by decide +kernel
theorem dX1_init_64 : decode cX1_init 64 = .ok (.goto (-25), 3) := by decide +kernel
theorem dX1_init_67 : decode cX1_init 67 = .ok (.aload_n 0, 1) := by decide +kernel
theorem dX1_init_68 : decode cX1_init 68 = .ok (.invokevirtual 28, 3) := by decide +kernel
theorem dX1_init_71 : decode cX1_init 71 = .ok (.return_, 1) := by decide +kernel
theorem dX1_empty_0 : decode cX1_empty 0 = .ok (.aload_n 0, 1) := by decide +kernel
theorem dX1_empty_1 : decode cX1_empty 1 = .ok (.iconst 0, 1) := by decide +kernel
theorem dX1_empty_2 : decode cX1_empty 2 = .ok (.putfield 31, 3) := by decide +kernel
theorem dX1_empty_5 : decode cX1_empty 5 = .ok (.aload_n 0, 1) := by decide +kernel
theorem dX1_empty_6 : decode cX1_empty 6 = .ok (.bipush 50, 2) := by decide +kernel
theorem dX1_empty_8 : decode cX1_empty 8 = .ok (.putfield 35, 3) := by decide +kernel
theorem dX1_empty_11 : decode cX1_empty 11 = .ok (.aload_n 0, 1) := by decide +kernel
theorem dX1_empty_12 : decode cX1_empty 12 = .ok (.bipush 8, 2) := by decide +kernel
theorem dX1_empty_14 : decode cX1_empty 14 = .ok (.putfield 38, 3) := by decide +kernel
theorem dX1_empty_17 : decode cX1_empty 17 = .ok (.aload_n 0, 1) := by decide +kernel
theorem dX1_empty_18 : decode cX1_empty 18 = .ok (.iconst 3, 1) := by decide +kernel
theorem dX1_empty_19 : decode cX1_empty 19 = .ok (.putfield 41, 3) := by decide +kernel
theorem dX1_empty_22 : decode cX1_empty 22 = .ok (.aload_n 0, 1) := by decide +kernel
theorem dX1_empty_23 : decode cX1_empty 23 = .ok (.bipush 30, 2) := by decide +kernel
theorem dX1_empty_25 : decode cX1_empty 25 = .ok (.putfield 44, 3) := by decide +kernel
theorem dX1_empty_28 : decode cX1_empty 28 = .ok (.aload_n 0, 1) := by decide +kernel
theorem dX1_empty_29 : decode cX1_empty 29 = .ok (.iconst 3, 1) := by decide +kernel
theorem dX1_empty_30 : decode cX1_empty 30 = .ok (.putfield 47, 3) := by decide +kernel
theorem dX1_empty_33 : decode cX1_empty 33 = .ok (.aload_n 0, 1) := by decide +kernel
theorem dX1_empty_34 : decode cX1_empty 34 = .ok (.iconst 5, 1) := by decide +kernel
theorem dX1_empty_35 : decode cX1_empty 35 = .ok (.putfield 50, 3) := by decide +kernel
theorem dX1_empty_38 : decode cX1_empty 38 = .ok (.aload_n 0, 1) := by decide +kernel
theorem dX1_empty_39 : decode cX1_empty 39 = .ok (.bipush 20, 2) := by decide +kernel
theorem dX1_empty_41 : decode cX1_empty 41 = .ok (.putfield 53, 3) := by decide +kernel
theorem dX1_empty_44 : decode cX1_empty 44 = .ok (.aload_n 0, 1) := by decide +kernel
theorem dX1_empty_45 : decode cX1_empty 45 = .ok (.bipush 100, 2) := by decide +kernel
theorem dX1_empty_47 : decode cX1_empty 47 = .ok (.putfield 56, 3) := by decide +kernel
theorem dX1_empty_50 : decode cX1_empty 50 = .ok (.aload_n 0, 1) := by decide +kernel
theorem dX1_empty_51 : decode cX1_empty 51 = .ok (.iconst 0, 1) := by decide +kernel
theorem dX1_empty_52 : decode cX1_empty 52 = .ok (.putfield 59, 3) := by decide +kernel
theorem dX1_empty_55 : decode cX1_empty 55 = .ok (.aload_n 0, 1) := by decide +kernel
theorem dX1_empty_56 : decode cX1_empty 56 = .ok (.iconst 0, 1) := by decide +kernel
theorem dX1_empty_57 : decode cX1_empty 57 = .ok (.putfield 62, 3) := by decide +kernel
theorem dX1_empty_60 : decode cX1_empty 60 = .ok (.return_, 1) := by decide +kernel
theorem dX1_copyFrom_0 : decode cX1_copyFrom 0 = .ok (.aload_n 0, 1) := by decide +kernel
theorem dX1_copyFrom_1 : decode cX1_copyFrom 1 = .ok (.aload_n 1, 1) := by decide +kernel
theorem dX1_copyFrom_2 : decode cX1_copyFrom 2 = .ok (.getfield 31, 3) := by decide +kernel
theorem dX1_copyFrom_5 : decode cX1_copyFrom 5 = .ok (.putfield 31, 3) := by decide +kernel
theorem dX1_copyFrom_8 : decode cX1_copyFrom 8 = .ok (.aload_n 0, 1) := by decide +kernel
theorem dX1_copyFrom_9 : decode cX1_copyFrom 9 = .ok (.aload_n 1, 1) := by decide +kernel
theorem dX1_copyFrom_10 : decode cX1_copyFrom 10 = .ok (.getfield 35, 3) := by decide +kernel
theorem dX1_copyFrom_13 : decode cX1_copyFrom 13 = .ok (.putfield 35, 3) := by decide +kernel
theorem dX1_copyFrom_16 : decode cX1_copyFrom 16 = .ok (.aload_n 0, 1) := by decide +kernel
theorem dX1_copyFrom_17 : decode cX1_copyFrom 17 = .ok (.aload_n 1, 1) := by decide +kernel
theorem dX1_copyFrom_18 : decode cX1_copyFrom 18 = .ok (.getfield 38, 3) := by decide +kernel
theorem dX1_copyFrom_21 : decode cX1_copyFrom 21 = .ok (.putfield 38, 3) := by decide +kernel
theorem dX1_copyFrom_24 : decode cX1_copyFrom 24 = .ok (.aload_n 0, 1) := by decide +kernel
theorem dX1_copyFrom_25 : decode cX1_copyFrom 25 = .ok (.aload_n 1, 1) := by decide +kernel
theorem dX1_copyFrom_26 : decode cX1_copyFrom 26 = .ok (.getfield 41, 3) := by decide +kernel
theorem dX1_copyFrom_29 : decode cX1_copyFrom 29 = .ok (.putfield 41, 3) := by decide +kernel
theorem dX1_copyFrom_32 : decode cX1_copyFrom 32 = .ok (.aload_n 0, 1) := by decide +kernel
theorem dX1_copyFrom_33 : decode cX1_copyFrom 33 = .ok (.aload_n 1, 1) := by decide +kernel
theorem dX1_copyFrom_34 : decode cX1_copyFrom 34 = .ok (.getfield 44, 3) := by decide +kernel
theorem dX1_copyFrom_37 : decode cX1_copyFrom 37 = .ok (.putfield 44, 3) := by decide +kernel
theorem dX1_copyFrom_40 : decode cX1_copyFrom 40 = .ok (.aload_n 0, 1) := by decide +kernel
theorem dX1_copyFrom_41 : decode cX1_copyFrom 41 = .ok (.aload_n 1, 1) := by decide +kernel
theorem dX1_copyFrom_42 : decode cX1_copyFrom 42 = .ok (.getfield 47, 3) := by decide +kernel
theorem dX1_copyFrom_45 : decode cX1_copyFrom 45 = .ok (.putfield 47, 3) := by decide +kernel
theorem dX1_copyFrom_48 : decode cX1_copyFrom 48 = .ok (.aload_n 0, 1) := by decide +kernel
theorem dX1_copyFrom_49 : decode cX1_copyFrom 49 = .ok (.aload_n 1, 1) := by decide +kernel
theorem dX1_copyFrom_50 : decode cX1_copyFrom 50 = .ok (.getfield 50, 3) := by decide +kernel
theorem dX1_copyFrom_53 : decode cX1_copyFrom 53 = .ok (.putfield 50, 3) := by decide +kernel
theorem dX1_copyFrom_56 : decode cX1_copyFrom 56 = .ok (.aload_n 0, 1) := by decide +kernel
theorem dX1_copyFrom_57 : decode cX1_copyFrom 57 = .ok (.aload_n 1, 1) := by decide +kernel
theorem dX1_copyFrom_58 : decode cX1_copyFrom 58 = .ok (.getfield 53, 3) := by decide +kernel
theorem dX1_copyFrom_61 : decode cX1_copyFrom 61 = .ok (.putfield 53, 3) := by decide +kernel
theorem dX1_copyFrom_64 : decode cX1_copyFrom 64 = .ok (.aload_n 0, 1) := by decide +kernel
theorem dX1_copyFrom_65 : decode cX1_copyFrom 65 = .ok (.aload_n 1, 1) := by decide +kernel
theorem dX1_copyFrom_66 : decode cX1_copyFrom 66 = .ok (.getfield 56, 3) := by decide +kernel
theorem dX1_copyFrom_69 : decode cX1_copyFrom 69 = .ok (.putfield 56, 3) := by decide +kernel
theorem dX1_copyFrom_72 : decode cX1_copyFrom 72 = .ok (.aload_n 0, 1) := by decide +kernel
theorem dX1_copyFrom_73 : decode cX1_copyFrom 73 = .ok (.aload_n 1, 1) := by decide +kernel
theorem dX1_copyFrom_74 : decode cX1_copyFrom 74 = .ok (.getfield 59, 3) := by decide +kernel
theorem dX1_copyFrom_77 : decode cX1_copyFrom 77 = .ok (.putfield 59, 3) := by decide +kernel
theorem dX1_copyFrom_80 : decode cX1_copyFrom 80 = .ok (.iconst 0, 1) := by decide +kernel
theorem dX1_copyFrom_81 : decode cX1_copyFrom 81 = .ok (.istore_n 2, 1) := by decide +kernel
theorem dX1_copyFrom_82 : decode cX1_copyFrom 82 = .ok (.iload_n 2, 1) := by decide +kernel
theorem dX1_copyFrom_83 : decode cX1_copyFrom 83 = .ok (.aload_n 0, 1) := by decide +kernel
theorem dX1_copyFrom_84 : decode cX1_copyFrom 84 = .ok (.getfield 59, 3) := by decide +kernel
theorem dX1_copyFrom_87 : decode cX1_copyFrom 87 = .ok (.if_icmp .ge 24, 3) := by decide +kernel
theorem dX1_copyFrom_90 : decode cX1_copyFrom 90 = .ok (.aload_n 0, 1) := by decide +kernel
theorem dX1_copyFrom_91 : decode cX1_copyFrom 91 = .ok (.getfield 11, 3) := by decide +kernel
theorem dX1_copyFrom_94 : decode cX1_copyFrom 94 = .ok (.iload_n 2, 1) := by decide +kernel
theorem dX1_copyFrom_95 : decode cX1_copyFrom 95 = .ok (.aaload, 1) := by decide +kernel
theorem dX1_copyFrom_96 : decode cX1_copyFrom 96 = .ok (.aload_n 1, 1) := by decide +kernel
theorem dX1_copyFrom_97 : decode cX1_copyFrom 97 = .ok (.getfield 11, 3) := by decide +kernel
theorem dX1_copyFrom_100 : decode cX1_copyFrom 100 = .ok (.iload_n 2, 1) := by decide +kernel
theorem dX1_copyFrom_101 : decode cX1_copyFrom 101 = .ok (.aaload, 1) := by decide +kernel
theorem dX1_copyFrom_102 : decode cX1_copyFrom 102 = .ok (.invokevirtual 65, 3) := by decide +kernel
theorem dX1_copyFrom_105 : decode cX1_copyFrom 105 = .ok (.iinc 2 1, 3) := by decide +kernel
theorem dX1_copyFrom_108 : decode cX1_copyFrom 108 = .ok (.goto (-26), 3) := by decide +kernel
theorem dX1_copyFrom_111 : decode cX1_copyFrom 111 = .ok (.aload_n 0, 1) := by decide +kernel
theorem dX1_copyFrom_112 : decode cX1_copyFrom 112 = .ok (.aload_n 1, 1) := by decide +kernel
theorem dX1_copyFrom_113 : decode cX1_copyFrom 113 = .ok (.getfield 62, 3) := by decide +kernel
theorem dX1_copyFrom_116 : decode cX1_copyFrom 116 = .ok (.putfield 62, 3) := by decide +kernel
theorem dX1_copyFrom_119 : decode cX1_copyFrom 119 = .ok (.aload_n 1, 1) := by decide +kernel
theorem dX1_copyFrom_120 : decode cX1_copyFrom 120 = .ok (.getfield 17, 3) := by decide +kernel
theorem dX1_copyFrom_123 : decode cX1_copyFrom 123 = .ok (.iconst 0, 1) := by decide +kernel
theorem dX1_copyFrom_124 : decode cX1_copyFrom 124 = .ok (.aload_n 0, 1) := by decide +kernel
theorem dX1_copyFrom_125 : decode cX1_copyFrom 125 = .ok (.getfield 17, 3) := by decide +kernel
theorem dX1_copyFrom_128 : decode cX1_copyFrom 128 = .ok (.iconst 0, 1) := by decide +kernel
theorem dX1_copyFrom_129 : decode cX1_copyFrom 129 = .ok (.bipush 20, 2) := by decide +kernel
theorem dX1_copyFrom_131 : decode cX1_copyFrom 131 = .ok (.invokestatic 69, 3) := by decide +kernel
theorem dX1_copyFrom_134 : decode cX1_copyFrom 134 = .ok (.aload_n 1, 1) := by decide +kernel
theorem dX1_copyFrom_135 : decode cX1_copyFrom 135 = .ok (.getfield 21, 3) := by decide +kernel
theorem dX1_copyFrom_138 : decode cX1_copyFrom 138 = .ok (.iconst 0, 1) := by decide +kernel
theorem dX1_copyFrom_139 : decode cX1_copyFrom 139 = .ok (.aload_n 0, 1) := by decide +kernel
theorem dX1_copyFrom_140 : decode cX1_copyFrom 140 = .ok (.getfield 21, 3) := by decide +kernel
theorem dX1_copyFrom_143 : decode cX1_copyFrom 143 = .ok (.iconst 0, 1) := by decide +kernel
theorem dX1_copyFrom_144 : decode cX1_copyFrom 144 = .ok (.bipush 20, 2) := by decide +kernel
theorem dX1_copyFrom_146 : decode cX1_copyFrom 146 = .ok (.invokestatic 69, 3) := by decide +kernel
theorem dX1_copyFrom_149 : decode cX1_copyFrom 149 = .ok (.aload_n 1, 1) := by decide +kernel
theorem dX1_copyFrom_150 : decode cX1_copyFrom 150 = .ok (.getfield 24, 3) := by decide +kernel
theorem dX1_copyFrom_153 : decode cX1_copyFrom 153 = .ok (.iconst 0, 1) := by decide +kernel
theorem dX1_copyFrom_154 : decode cX1_copyFrom 154 = .ok (.aload_n 0, 1) := by decide +kernel
theorem dX1_copyFrom_155 : decode cX1_copyFrom 155 = .ok (.getfield 24, 3) := by decide +kernel
theorem dX1_copyFrom_158 : decode cX1_copyFrom 158 = .ok (.iconst 0, 1) := by decide +kernel
theorem dX1_copyFrom_159 : decode cX1_copyFrom 159 = .ok (.bipush 20, 2) := by decide +kernel
theorem dX1_copyFrom_161 : decode cX1_copyFrom 161 = .ok (.invokestatic 69, 3) := by decide +kernel
theorem dX1_copyFrom_164 : decode cX1_copyFrom 164 = .ok (.return_, 1) := by decide +kernel
theorem dX1_numberOf_0 : decode cX1_numberOf 0 = .ok (.iconst 0, 1) := by decide +kernel
theorem dX1_numberOf_1 : decode cX1_numberOf 1 = .ok (.istore 4, 2) := by decide +kernel
theorem dX1_numberOf_3 : decode cX1_numberOf 3 = .ok (.iload 4, 2) := by decide +kernel
theorem dX1_numberOf_5 : decode cX1_numberOf 5 = .ok (.aload_n 0, 1) := by decide +kernel
theorem dX1_numberOf_6 : decode cX1_numberOf 6 = .ok (.getfield 59, 3) := by decide +kernel
theorem dX1_numberOf_9 : decode cX1_numberOf 9 = .ok (.if_icmp .ge 31, 3) := by decide +kernel
theorem dX1_numberOf_12 : decode cX1_numberOf 12 = .ok (.aload_n 1, 1) := by decide +kernel
theorem dX1_numberOf_13 : decode cX1_numberOf 13 = .ok (.iload_n 2, 1) := by decide +kernel
theorem dX1_numberOf_14 : decode cX1_numberOf 14 = .ok (.iload_n 3, 1) := by decide +kernel
theorem dX1_numberOf_15 : decode cX1_numberOf 15 = .ok (.aload_n 0, 1) := by decide +kernel
theorem dX1_numberOf_16 : decode cX1_numberOf 16 = .ok (.getfield 11, 3) := by decide +kernel
theorem dX1_numberOf_19 : decode cX1_numberOf 19 = .ok (.iload 4, 2) := by decide +kernel
theorem dX1_numberOf_21 : decode cX1_numberOf 21 = .ok (.aaload, 1) := by decide +kernel
theorem dX1_numberOf_22 : decode cX1_numberOf 22 = .ok (.getfield 75, 3) := by decide +kernel
theorem dX1_numberOf_25 : decode cX1_numberOf 25 = .ok (.invokestatic 79, 3) := by decide +kernel
theorem dX1_numberOf_28 : decode cX1_numberOf 28 = .ok (.ifCond .eq 6, 3) := by decide +kernel
theorem dX1_numberOf_31 : decode cX1_numberOf 31 = .ok (.iload 4, 2) := by decide +kernel
theorem dX1_numberOf_33 : decode cX1_numberOf 33 = .ok (.ireturn, 1) := by decide +kernel
theorem dX1_numberOf_34 : decode cX1_numberOf 34 = .ok (.iinc 4 1, 3) := by decide +kernel
theorem dX1_numberOf_37 : decode cX1_numberOf 37 = .ok (.goto (-34), 3) := by decide +kernel
theorem dX1_numberOf_40 : decode cX1_numberOf 40 = .ok (.iconst (-1), 1) := by decide +kernel
theorem dX1_numberOf_41 : decode cX1_numberOf 41 = .ok (.ireturn, 1) := by decide +kernel
theorem dX1_tickOfDay_0 : decode cX1_tickOfDay 0 = .ok (.aload_n 0, 1) := by decide +kernel
theorem dX1_tickOfDay_1 : decode cX1_tickOfDay 1 = .ok (.getfield 31, 3) := by decide +kernel
theorem dX1_tickOfDay_4 : decode cX1_tickOfDay 4 = .ok (.bipush 48, 2) := by decide +kernel
theorem dX1_tickOfDay_6 : decode cX1_tickOfDay 6 = .ok (.irem, 1) := by decide +kernel
theorem dX1_tickOfDay_7 : decode cX1_tickOfDay 7 = .ok (.ireturn, 1) := by decide +kernel
theorem dX1_targetOf_0 : decode cX1_targetOf 0 = .ok (.aload_n 1, 1) := by decide +kernel
theorem dX1_targetOf_1 : decode cX1_targetOf 1 = .ok (.getfield 83, 3) := by decide +kernel
theorem dX1_targetOf_4 : decode cX1_targetOf 4 = .ok (.ifCond .le 8, 3) := by decide +kernel
theorem dX1_targetOf_7 : decode cX1_targetOf 7 = .ok (.aload_n 1, 1) := by decide +kernel
theorem dX1_targetOf_8 : decode cX1_targetOf 8 = .ok (.getfield 86, 3) := by decide +kernel
theorem dX1_targetOf_11 : decode cX1_targetOf 11 = .ok (.ireturn, 1) := by decide +kernel
theorem dX1_targetOf_12 : decode cX1_targetOf 12 = .ok (.aload_n 1, 1) := by decide +kernel
theorem dX1_targetOf_13 : decode cX1_targetOf 13 = .ok (.aload_n 0, 1) := by decide +kernel
theorem dX1_targetOf_14 : decode cX1_targetOf 14 = .ok (.invokevirtual 89, 3) := by decide +kernel
theorem dX1_targetOf_17 : decode cX1_targetOf 17 = .ok (.invokevirtual 93, 3) := by decide +kernel
theorem dX1_targetOf_20 : decode cX1_targetOf 20 = .ok (.istore_n 2, 1) := by decide +kernel
theorem dX1_targetOf_21 : decode cX1_targetOf 21 = .ok (.aload_n 1, 1) := by decide +kernel
theorem dX1_targetOf_22 : decode cX1_targetOf 22 = .ok (.getfield 97, 3) := by decide +kernel
theorem dX1_targetOf_25 : decode cX1_targetOf 25 = .ok (.ifCond .eq 7, 3) := by decide +kernel
theorem dX1_targetOf_28 : decode cX1_targetOf 28 = .ok (.iload_n 2, 1) := by decide +kernel
theorem dX1_targetOf_29 : decode cX1_targetOf 29 = .ok (.goto 9, 3) := by decide +kernel
theorem dX1_targetOf_32 : decode cX1_targetOf 32 = .ok (.iload_n 2, 1) := by decide +kernel
theorem dX1_targetOf_33 : decode cX1_targetOf 33 = .ok (.aload_n 0, 1) := by decide +kernel
theorem dX1_targetOf_34 : decode cX1_targetOf 34 = .ok (.getfield 44, 3) := by decide +kernel
theorem dX1_targetOf_37 : decode cX1_targetOf 37 = .ok (.isub, 1) := by decide +kernel
theorem dX1_targetOf_38 : decode cX1_targetOf 38 = .ok (.ireturn, 1) := by decide +kernel
theorem dX1_missingTo_0 : decode cX1_missingTo 0 = .ok (.aload_n 0, 1) := by decide +kernel
theorem dX1_missingTo_1 : decode cX1_missingTo 1 = .ok (.aload_n 1, 1) := by decide +kernel
theorem dX1_missingTo_2 : decode cX1_missingTo 2 = .ok (.invokevirtual 101, 3) := by decide +kernel
theorem dX1_missingTo_5 : decode cX1_missingTo 5 = .ok (.aload_n 1, 1) := by decide +kernel
theorem dX1_missingTo_6 : decode cX1_missingTo 6 = .ok (.getfield 105, 3) := by decide +kernel
theorem dX1_missingTo_9 : decode cX1_missingTo 9 = .ok (.isub, 1) := by decide +kernel
theorem dX1_missingTo_10 : decode cX1_missingTo 10 = .ok (.ireturn, 1) := by decide +kernel
theorem dX1_positionWanted_0 : decode cX1_positionWanted 0 = .ok (.aload_n 1, 1) := by decide +kernel
theorem dX1_positionWanted_1 : decode cX1_positionWanted 1 = .ok (.getfield 108, 3) := by decide +kernel
theorem dX1_positionWanted_4 : decode cX1_positionWanted 4 = .ok (.ifCond .le 5, 3) := by decide +kernel
theorem dX1_positionWanted_7 : decode cX1_positionWanted 7 = .ok (.iconst 0, 1) := by decide +kernel
theorem dX1_positionWanted_8 : decode cX1_positionWanted 8 = .ok (.ireturn, 1) := by decide +kernel
theorem dX1_positionWanted_9 : decode cX1_positionWanted 9 = .ok (.aload_n 0, 1) := by decide +kernel
theorem dX1_positionWanted_10 : decode cX1_positionWanted 10 = .ok (.aload_n 1, 1) := by decide +kernel
theorem dX1_positionWanted_11 : decode cX1_positionWanted 11 = .ok (.invokevirtual 101, 3) := by decide +kernel
theorem dX1_positionWanted_14 : decode cX1_positionWanted 14 = .ok (.aload_n 1, 1) := by decide +kernel
theorem dX1_positionWanted_15 : decode cX1_positionWanted 15 = .ok (.getfield 105, 3) := by decide +kernel
theorem dX1_positionWanted_18 : decode cX1_positionWanted 18 = .ok (.isub, 1) := by decide +kernel
theorem dX1_positionWanted_19 : decode cX1_positionWanted 19 = .ok (.istore_n 2, 1) := by decide +kernel
theorem dX1_positionWanted_20 : decode cX1_positionWanted 20 = .ok (.iload_n 2, 1) := by decide +kernel
theorem dX1_positionWanted_21 : decode cX1_positionWanted 21 = .ok (.invokestatic 111, 3) := by decide +kernel
theorem dX1_positionWanted_24 : decode cX1_positionWanted 24 = .ok (.aload_n 0, 1) := by decide +kernel
theorem dX1_positionWanted_25 : decode cX1_positionWanted 25 = .ok (.getfield 47, 3) := by decide +kernel
theorem dX1_positionWanted_28 : decode cX1_positionWanted 28 = .ok (.if_icmp .gt 8, 3) := by decide +kernel
theorem dX1_positionWanted_31 : decode cX1_positionWanted 31 = .ok (.aload_n 1, 1) := by decide +kernel
theorem dX1_positionWanted_32 : decode cX1_positionWanted 32 = .ok (.getfield 116, 3) := by decide +kernel
theorem dX1_positionWanted_35 : decode cX1_positionWanted 35 = .ok (.ireturn, 1) := by decide +kernel
theorem dX1_positionWanted_36 : decode cX1_positionWanted 36 = .ok (.iconst 0, 1) := by decide +kernel
theorem dX1_positionWanted_37 : decode cX1_positionWanted 37 = .ok (.bipush 100, 2) := by decide +kernel
theorem dX1_positionWanted_39 : decode cX1_positionWanted 39 = .ok (.aload_n 0, 1) := by decide +kernel
theorem dX1_positionWanted_40 : decode cX1_positionWanted 40 = .ok (.getfield 50, 3) := by decide +kernel
theorem dX1_positionWanted_43 : decode cX1_positionWanted 43 = .ok (.iload_n 2, 1) := by decide +kernel
theorem dX1_positionWanted_44 : decode cX1_positionWanted 44 = .ok (.imul, 1) := by decide +kernel
theorem dX1_positionWanted_45 : decode cX1_positionWanted 45 = .ok (.invokestatic 119, 3) := by decide +kernel
theorem dX1_positionWanted_48 : decode cX1_positionWanted 48 = .ok (.invokestatic 123, 3) := by decide +kernel
theorem dX1_positionWanted_51 : decode cX1_positionWanted 51 = .ok (.ireturn, 1) := by decide +kernel
theorem dX1_putPlan_0 : decode cX1_putPlan 0 = .ok (.aload_n 0, 1) := by decide +kernel
theorem dX1_putPlan_1 : decode cX1_putPlan 1 = .ok (.getfield 62, 3) := by decide +kernel
theorem dX1_putPlan_4 : decode cX1_putPlan 4 = .ok (.istore 4, 2) := by decide +kernel
theorem dX1_putPlan_6 : decode cX1_putPlan 6 = .ok (.iload 4, 2) := by decide +kernel
theorem dX1_putPlan_8 : decode cX1_putPlan 8 = .ok (.ifCond .le 32, 3) := by decide +kernel
theorem dX1_putPlan_11 : decode cX1_putPlan 11 = .ok (.aload_n 0, 1) := by decide +kernel
theorem dX1_putPlan_12 : decode cX1_putPlan 12 = .ok (.getfield 17, 3) := by decide +kernel
theorem dX1_putPlan_15 : decode cX1_putPlan 15 = .ok (.iload 4, 2) := by decide +kernel
theorem dX1_putPlan_17 : decode cX1_putPlan 17 = .ok (.iconst 1, 1) := by decide +kernel
theorem dX1_putPlan_18 : decode cX1_putPlan 18 = .ok (.isub, 1) := by decide +kernel
theorem dX1_putPlan_19 : decode cX1_putPlan 19 = .ok (.iaload, 1) := by decide +kernel
theorem dX1_putPlan_20 : decode cX1_putPlan 20 = .ok (.iload_n 1, 1) := by decide +kernel
theorem dX1_putPlan_21 : decode cX1_putPlan 21 = .ok (.if_icmp .le 19, 3) := by decide +kernel
theorem dX1_putPlan_24 : decode cX1_putPlan 24 = .ok (.aload_n 0, 1) := by decide +kernel
theorem dX1_putPlan_25 : decode cX1_putPlan 25 = .ok (.iload 4, 2) := by decide +kernel
theorem dX1_putPlan_27 : decode cX1_putPlan 27 = .ok (.iconst 1, 1) := by decide +kernel
theorem dX1_putPlan_28 : decode cX1_putPlan 28 = .ok (.isub, 1) := by decide +kernel
theorem dX1_putPlan_29 : decode cX1_putPlan 29 = .ok (.iload 4, 2) := by decide +kernel
theorem dX1_putPlan_31 : decode cX1_putPlan 31 = .ok (.invokevirtual 129, 3) := by decide +kernel
theorem dX1_putPlan_34 : decode cX1_putPlan 34 = .ok (.iinc 4 (-1), 3) := by decide +kernel
theorem dX1_putPlan_37 : decode cX1_putPlan 37 = .ok (.goto (-31), 3) := by decide +kernel
theorem dX1_putPlan_40 : decode cX1_putPlan 40 = .ok (.aload_n 0, 1) := by decide +kernel
theorem dX1_putPlan_41 : decode cX1_putPlan 41 = .ok (.getfield 17, 3) := by decide +kernel
theorem dX1_putPlan_44 : decode cX1_putPlan 44 = .ok (.iload 4, 2) := by decide +kernel
theorem dX1_putPlan_46 : decode cX1_putPlan 46 = .ok (.iload_n 1, 1) := by decide +kernel
theorem dX1_putPlan_47 : decode cX1_putPlan 47 = .ok (.iastore, 1) := by decide +kernel
theorem dX1_putPlan_48 : decode cX1_putPlan 48 = .ok (.aload_n 0, 1) := by decide +kernel
theorem dX1_putPlan_49 : decode cX1_putPlan 49 = .ok (.getfield 21, 3) := by decide +kernel
theorem dX1_putPlan_52 : decode cX1_putPlan 52 = .ok (.iload 4, 2) := by decide +kernel
theorem dX1_putPlan_54 : decode cX1_putPlan 54 = .ok (.iload_n 2, 1) := by decide +kernel
theorem dX1_putPlan_55 : decode cX1_putPlan 55 = .ok (.iastore, 1) := by decide +kernel
theorem dX1_putPlan_56 : decode cX1_putPlan 56 = .ok (.aload_n 0, 1) := by decide +kernel
theorem dX1_putPlan_57 : decode cX1_putPlan 57 = .ok (.getfield 24, 3) := by decide +kernel
theorem dX1_putPlan_60 : decode cX1_putPlan 60 = .ok (.iload 4, 2) := by decide +kernel
theorem dX1_putPlan_62 : decode cX1_putPlan 62 = .ok (.iload_n 3, 1) := by decide +kernel
theorem dX1_putPlan_63 : decode cX1_putPlan 63 = .ok (.iastore, 1) := by decide +kernel
theorem dX1_putPlan_64 : decode cX1_putPlan 64 = .ok (.aload_n 0, 1) := by decide +kernel
theorem dX1_putPlan_65 : decode cX1_putPlan 65 = .ok (.dup, 1) := by decide +kernel
theorem dX1_putPlan_66 : decode cX1_putPlan 66 = .ok (.getfield 62, 3) := by decide +kernel
theorem dX1_putPlan_69 : decode cX1_putPlan 69 = .ok (.iconst 1, 1) := by decide +kernel
theorem dX1_putPlan_70 : decode cX1_putPlan 70 = .ok (.iadd, 1) := by decide +kernel
theorem dX1_putPlan_71 : decode cX1_putPlan 71 = .ok (.putfield 62, 3) := by decide +kernel
theorem dX1_putPlan_74 : decode cX1_putPlan 74 = .ok (.iload 4, 2) := by decide +kernel
theorem dX1_putPlan_76 : decode cX1_putPlan 76 = .ok (.ireturn, 1) := by decide +kernel
theorem dX1_removePlans_0 : decode cX1_removePlans 0 = .ok (.iload_n 1, 1) := by decide +kernel
theorem dX1_removePlans_1 : decode cX1_removePlans 1 = .ok (.iload_n 2, 1) := by decide +kernel
theorem dX1_removePlans_2 : decode cX1_removePlans 2 = .ok (.iadd, 1) := by decide +kernel
theorem dX1_removePlans_3 : decode cX1_removePlans 3 = .ok (.istore_n 3, 1) := by decide +kernel
theorem dX1_removePlans_4 : decode cX1_removePlans 4 = .ok (.iload_n 3, 1) := by decide +kernel
theorem dX1_removePlans_5 : decode cX1_removePlans 5 = .ok (.aload_n 0, 1) := by decide +kernel
theorem dX1_removePlans_6 : decode cX1_removePlans 6 = .ok (.getfield 62, 3) := by decide +kernel
theorem dX1_removePlans_9 : decode cX1_removePlans 9 = .ok (.if_icmp .ge 17, 3) := by decide +kernel
theorem dX1_removePlans_12 : decode cX1_removePlans 12 = .ok (.aload_n 0, 1) := by decide +kernel
theorem dX1_removePlans_13 : decode cX1_removePlans 13 = .ok (.iload_n 3, 1) := by decide +kernel
theorem dX1_removePlans_14 : decode cX1_removePlans 14 = .ok (.iload_n 3, 1) := by decide +kernel
theorem dX1_removePlans_15 : decode cX1_removePlans 15 = .ok (.iload_n 2, 1) := by decide +kernel
theorem dX1_removePlans_16 : decode cX1_removePlans 16 = .ok (.isub, 1) := by decide +kernel
theorem dX1_removePlans_17 : decode cX1_removePlans 17 = .ok (.invokevirtual 129, 3) := by decide +kernel
theorem dX1_removePlans_20 : decode cX1_removePlans 20 = .ok (.iinc 3 1, 3) := by decide +kernel
theorem dX1_removePlans_23 : decode cX1_removePlans 23 = .ok (.goto (-19), 3) := by decide +kernel
theorem dX1_removePlans_26 : decode cX1_removePlans 26 = .ok (.aload_n 0, 1) := by decide +kernel
theorem dX1_removePlans_27 : decode cX1_removePlans 27 = .ok (.dup, 1) := by decide +kernel
theorem dX1_removePlans_28 : decode cX1_removePlans 28 = .ok (.getfield 62, 3) := by decide +kernel
theorem dX1_removePlans_31 : decode cX1_removePlans 31 = .ok (.iload_n 2, 1) := by decide +kernel
theorem dX1_removePlans_32 : decode cX1_removePlans 32 = .ok (.isub, 1) := by decide +kernel
theorem dX1_removePlans_33 : decode cX1_removePlans 33 = .ok (.putfield 62, 3) := by decide +kernel
theorem dX1_removePlans_36 : decode cX1_removePlans 36 = .ok (.return_, 1) := by decide +kernel
theorem dX1_movePlan_0 : decode cX1_movePlan 0 = .ok (.aload_n 0, 1) := by decide +kernel
theorem dX1_movePlan_1 : decode cX1_movePlan 1 = .ok (.getfield 17, 3) := by decide +kernel
theorem dX1_movePlan_4 : decode cX1_movePlan 4 = .ok (.iload_n 2, 1) := by decide +kernel
theorem dX1_movePlan_5 : decode cX1_movePlan 5 = .ok (.aload_n 0, 1) := by decide +kernel
theorem dX1_movePlan_6 : decode cX1_movePlan 6 = .ok (.getfield 17, 3) := by decide +kernel
theorem dX1_movePlan_9 : decode cX1_movePlan 9 = .ok (.iload_n 1, 1) := by decide +kernel
theorem dX1_movePlan_10 : decode cX1_movePlan 10 = .ok (.iaload, 1) := by decide +kernel
theorem dX1_movePlan_11 : decode cX1_movePlan 11 = .ok (.iastore, 1) := by decide +kernel
theorem dX1_movePlan_12 : decode cX1_movePlan 12 = .ok (.aload_n 0, 1) := by decide +kernel
theorem dX1_movePlan_13 : decode cX1_movePlan 13 = .ok (.getfield 21, 3) := by decide +kernel
theorem dX1_movePlan_16 : decode cX1_movePlan 16 = .ok (.iload_n 2, 1) := by decide +kernel
theorem dX1_movePlan_17 : decode cX1_movePlan 17 = .ok (.aload_n 0, 1) := by decide +kernel
theorem dX1_movePlan_18 : decode cX1_movePlan 18 = .ok (.getfield 21, 3) := by decide +kernel
theorem dX1_movePlan_21 : decode cX1_movePlan 21 = .ok (.iload_n 1, 1) := by decide +kernel
theorem dX1_movePlan_22 : decode cX1_movePlan 22 = .ok (.iaload, 1) := by decide +kernel
theorem dX1_movePlan_23 : decode cX1_movePlan 23 = .ok (.iastore, 1) := by decide +kernel
theorem dX1_movePlan_24 : decode cX1_movePlan 24 = .ok (.aload_n 0, 1) := by decide +kernel
theorem dX1_movePlan_25 : decode cX1_movePlan 25 = .ok (.getfield 24, 3) := by decide +kernel
theorem dX1_movePlan_28 : decode cX1_movePlan 28 = .ok (.iload_n 2, 1) := by decide +kernel
theorem dX1_movePlan_29 : decode cX1_movePlan 29 = .ok (.aload_n 0, 1) := by decide +kernel
theorem dX1_movePlan_30 : decode cX1_movePlan 30 = .ok (.getfield 24, 3) := by decide +kernel
theorem dX1_movePlan_33 : decode cX1_movePlan 33 = .ok (.iload_n 1, 1) := by decide +kernel
theorem dX1_movePlan_34 : decode cX1_movePlan 34 = .ok (.iaload, 1) := by decide +kernel
theorem dX1_movePlan_35 : decode cX1_movePlan 35 = .ok (.iastore, 1) := by decide +kernel
theorem dX1_movePlan_36 : decode cX1_movePlan 36 = .ok (.return_, 1) := by decide +kernel
theorem dX1_passTick_0 : decode cX1_passTick 0 = .ok (.aload_n 0, 1) := by decide +kernel
theorem dX1_passTick_1 : decode cX1_passTick 1 = .ok (.invokevirtual 133, 3) := by decide +kernel
theorem dX1_passTick_4 : decode cX1_passTick 4 = .ok (.iconst 0, 1) := by decide +kernel
theorem dX1_passTick_5 : decode cX1_passTick 5 = .ok (.istore_n 1, 1) := by decide +kernel
theorem dX1_passTick_6 : decode cX1_passTick 6 = .ok (.iconst 0, 1) := by decide +kernel
theorem dX1_passTick_7 : decode cX1_passTick 7 = .ok (.istore_n 2, 1) := by decide +kernel
theorem dX1_passTick_8 : decode cX1_passTick 8 = .ok (.iload_n 2, 1) := by decide +kernel
theorem dX1_passTick_9 : decode cX1_passTick 9 = .ok (.aload_n 0, 1) := by decide +kernel
theorem dX1_passTick_10 : decode cX1_passTick 10 = .ok (.getfield 59, 3) := by decide +kernel
theorem dX1_passTick_13 : decode cX1_passTick 13 = .ok (.if_icmp .ge 23, 3) := by decide +kernel
theorem dX1_passTick_16 : decode cX1_passTick 16 = .ok (.iload_n 1, 1) := by decide +kernel
theorem dX1_passTick_17 : decode cX1_passTick 17 = .ok (.aload_n 0, 1) := by decide +kernel
theorem dX1_passTick_18 : decode cX1_passTick 18 = .ok (.aload_n 0, 1) := by decide +kernel
theorem dX1_passTick_19 : decode cX1_passTick 19 = .ok (.getfield 11, 3) := by decide +kernel
theorem dX1_passTick_22 : decode cX1_passTick 22 = .ok (.iload_n 2, 1) := by decide +kernel
theorem dX1_passTick_23 : decode cX1_passTick 23 = .ok (.aaload, 1) := by decide +kernel
theorem dX1_passTick_24 : decode cX1_passTick 24 = .ok (.iload_n 2, 1) := by decide +kernel
theorem dX1_passTick_25 : decode cX1_passTick 25 = .ok (.invokevirtual 136, 3) := by decide +kernel
theorem dX1_passTick_28 : decode cX1_passTick 28 = .ok (.iadd, 1) := by decide +kernel
theorem dX1_passTick_29 : decode cX1_passTick 29 = .ok (.istore_n 1, 1) := by decide +kernel
theorem dX1_passTick_30 : decode cX1_passTick 30 = .ok (.iinc 2 1, 3) := by decide +kernel
theorem dX1_passTick_33 : decode cX1_passTick 33 = .ok (.goto (-25), 3) := by decide +kernel
theorem dX1_passTick_36 : decode cX1_passTick 36 = .ok (.iload_n 1, 1) := by decide +kernel
theorem dX1_passTick_37 : decode cX1_passTick 37 = .ok (.ireturn, 1) := by decide +kernel
theorem dX1_startTick_0 : decode cX1_startTick 0 = .ok (.aload_n 0, 1) := by decide +kernel
theorem dX1_startTick_1 : decode cX1_startTick 1 = .ok (.dup, 1) := by decide +kernel
theorem dX1_startTick_2 : decode cX1_startTick 2 = .ok (.getfield 31, 3) := by decide +kernel
theorem dX1_startTick_5 : decode cX1_startTick 5 = .ok (.iconst 1, 1) := by decide +kernel
theorem dX1_startTick_6 : decode cX1_startTick 6 = .ok (.iadd, 1) := by decide +kernel
theorem dX1_startTick_7 : decode cX1_startTick 7 = .ok (.putfield 31, 3) := by decide +kernel
theorem dX1_startTick_10 : decode cX1_startTick 10 = .ok (.iconst 0, 1) := by decide +kernel
theorem dX1_startTick_11 : decode cX1_startTick 11 = .ok (.istore_n 1, 1) := by decide +kernel
theorem dX1_startTick_12 : decode cX1_startTick 12 = .ok (.iload_n 1, 1) := by decide +kernel
theorem dX1_startTick_13 : decode cX1_startTick 13 = .ok (.aload_n 0, 1) := by decide +kernel
theorem dX1_startTick_14 : decode cX1_startTick 14 = .ok (.getfield 62, 3) := by decide +kernel
theorem dX1_startTick_17 : decode cX1_startTick 17 = .ok (.if_icmp .ge 43, 3) := by decide +kernel
theorem dX1_startTick_20 : decode cX1_startTick 20 = .ok (.aload_n 0, 1) := by decide +kernel
theorem dX1_startTick_21 : decode cX1_startTick 21 = .ok (.getfield 17, 3) := by decide +kernel
theorem dX1_startTick_24 : decode cX1_startTick 24 = .ok (.iload_n 1, 1) := by decide +kernel
theorem dX1_startTick_25 : decode cX1_startTick 25 = .ok (.iaload, 1) := by decide +kernel
theorem dX1_startTick_26 : decode cX1_startTick 26 = .ok (.aload_n 0, 1) := by decide +kernel
theorem dX1_startTick_27 : decode cX1_startTick 27 = .ok (.getfield 31, 3) := by decide +kernel
theorem dX1_startTick_30 : decode cX1_startTick 30 = .ok (.if_icmp .ne 30, 3) := by decide +kernel
theorem dX1_startTick_33 : decode cX1_startTick 33 = .ok (.aload_n 0, 1) := by decide +kernel
theorem dX1_startTick_34 : decode cX1_startTick 34 = .ok (.aload_n 0, 1) := by decide +kernel
theorem dX1_startTick_35 : decode cX1_startTick 35 = .ok (.getfield 11, 3) := by decide +kernel
theorem dX1_startTick_38 : decode cX1_startTick 38 = .ok (.aload_n 0, 1) := by decide +kernel
theorem dX1_startTick_39 : decode cX1_startTick 39 = .ok (.getfield 21, 3) := by decide +kernel
theorem dX1_startTick_42 : decode cX1_startTick 42 = .ok (.iload_n 1, 1) := by decide +kernel
theorem dX1_startTick_43 : decode cX1_startTick 43 = .ok (.iaload, 1) := by decide +kernel
theorem dX1_startTick_44 : decode cX1_startTick 44 = .ok (.aaload, 1) := by decide +kernel
theorem dX1_startTick_45 : decode cX1_startTick 45 = .ok (.aload_n 0, 1) := by decide +kernel
theorem dX1_startTick_46 : decode cX1_startTick 46 = .ok (.getfield 24, 3) := by decide +kernel
theorem dX1_startTick_49 : decode cX1_startTick 49 = .ok (.iload_n 1, 1) := by decide +kernel
theorem dX1_startTick_50 : decode cX1_startTick 50 = .ok (.iaload, 1) := by decide +kernel
theorem dX1_startTick_51 : decode cX1_startTick 51 = .ok (.invokevirtual 140, 3) := by decide +kernel
theorem dX1_startTick_54 : decode cX1_startTick 54 = .ok (.iinc 1 1, 3) := by decide +kernel
theorem dX1_startTick_57 : decode cX1_startTick 57 = .ok (.goto (-45), 3) := by decide +kernel
theorem dX1_startTick_60 : decode cX1_startTick 60 = .ok (.aload_n 0, 1) := by decide +kernel
theorem dX1_startTick_61 : decode cX1_startTick 61 = .ok (.iconst 0, 1) := by decide +kernel
theorem dX1_startTick_62 : decode cX1_startTick 62 = .ok (.iload_n 1, 1) := by decide +kernel
theorem dX1_startTick_63 : decode cX1_startTick 63 = .ok (.invokevirtual 144, 3) := by decide +kernel
theorem dX1_startTick_66 : decode cX1_startTick 66 = .ok (.return_, 1) := by decide +kernel
theorem dX1_carryOut_0 : decode cX1_carryOut 0 = .ok (.iload_n 2, 1) := by decide +kernel
theorem dX1_carryOut_1 : decode cX1_carryOut 1 = .ok (.tableswitch 51 0 2 #[27, 35, 43], 27) := by decide +kernel
theorem dX1_carryOut_28 : decode cX1_carryOut 28 = .ok (.aload_n 1, 1) := by decide +kernel
theorem dX1_carryOut_29 : decode cX1_carryOut 29 = .ok (.iconst 1, 1) := by decide +kernel
theorem dX1_carryOut_30 : decode cX1_carryOut 30 = .ok (.putfield 147, 3) := by decide +kernel
theorem dX1_carryOut_33 : decode cX1_carryOut 33 = .ok (.goto 24, 3) := by decide +kernel
theorem dX1_carryOut_36 : decode cX1_carryOut 36 = .ok (.aload_n 1, 1) := by decide +kernel
theorem dX1_carryOut_37 : decode cX1_carryOut 37 = .ok (.iconst 0, 1) := by decide +kernel
theorem dX1_carryOut_38 : decode cX1_carryOut 38 = .ok (.putfield 147, 3) := by decide +kernel
theorem dX1_carryOut_41 : decode cX1_carryOut 41 = .ok (.goto 16, 3) := by decide +kernel
theorem dX1_carryOut_44 : decode cX1_carryOut 44 = .ok (.aload_n 1, 1) := by decide +kernel
theorem dX1_carryOut_45 : decode cX1_carryOut 45 = .ok (.iconst 1, 1) := by decide +kernel
theorem dX1_carryOut_46 : decode cX1_carryOut 46 = .ok (.putfield 97, 3) := by decide +kernel
theorem dX1_carryOut_49 : decode cX1_carryOut 49 = .ok (.goto 8, 3) := by decide +kernel
theorem dX1_carryOut_52 : decode cX1_carryOut 52 = .ok (.aload_n 1, 1) := by decide +kernel
theorem dX1_carryOut_53 : decode cX1_carryOut 53 = .ok (.iconst 0, 1) := by decide +kernel
theorem dX1_carryOut_54 : decode cX1_carryOut 54 = .ok (.putfield 97, 3) := by decide +kernel
theorem dX1_carryOut_57 : decode cX1_carryOut 57 = .ok (.aload_n 1, 1) := by decide +kernel
theorem dX1_carryOut_58 : decode cX1_carryOut 58 = .ok (.getfield 150, 3) := by decide +kernel
theorem dX1_carryOut_61 : decode cX1_carryOut 61 = .ok (.iconst 3, 1) := by decide +kernel
theorem dX1_carryOut_62 : decode cX1_carryOut 62 = .ok (.dup2, 1) := by decide +kernel
theorem dX1_carryOut_63 : decode cX1_carryOut 63 = .ok (.iaload, 1) := by decide +kernel
theorem dX1_carryOut_64 : decode cX1_carryOut 64 = .ok (.iconst 1, 1) := by decide +kernel
theorem dX1_carryOut_65 : decode cX1_carryOut 65 = .ok (.iadd, 1) := by decide +kernel
theorem dX1_carryOut_66 : decode cX1_carryOut 66 = .ok (.iastore, 1) := by decide +kernel
theorem dX1_carryOut_67 : decode cX1_carryOut 67 = .ok (.return_, 1) := by decide +kernel
theorem dX1_live_0 : decode cX1_live 0 = .ok (.aload_n 0, 1) := by decide +kernel
theorem dX1_live_1 : decode cX1_live 1 = .ok (.aload_n 1, 1) := by decide +kernel
theorem dX1_live_2 : decode cX1_live 2 = .ok (.invokevirtual 153, 3) := by decide +kernel
theorem dX1_live_5 : decode cX1_live 5 = .ok (.aload_n 1, 1) := by decide +kernel
theorem dX1_live_6 : decode cX1_live 6 = .ok (.getfield 83, 3) := by decide +kernel
theorem dX1_live_9 : decode cX1_live 9 = .ok (.ifCond .le 13, 3) := by decide +kernel
theorem dX1_live_12 : decode cX1_live 12 = .ok (.aload_n 1, 1) := by decide +kernel
theorem dX1_live_13 : decode cX1_live 13 = .ok (.dup, 1) := by decide +kernel
theorem dX1_live_14 : decode cX1_live 14 = .ok (.getfield 83, 3) := by decide +kernel
theorem dX1_live_17 : decode cX1_live 17 = .ok (.iconst 1, 1) := by decide +kernel
theorem dX1_live_18 : decode cX1_live 18 = .ok (.isub, 1) := by decide +kernel
theorem dX1_live_19 : decode cX1_live 19 = .ok (.putfield 83, 3) := by decide +kernel
theorem dX1_live_22 : decode cX1_live 22 = .ok (.iconst 0, 1) := by decide +kernel
theorem dX1_live_23 : decode cX1_live 23 = .ok (.istore_n 3, 1) := by decide +kernel
theorem dX1_live_24 : decode cX1_live 24 = .ok (.aload_n 0, 1) := by decide +kernel
theorem dX1_live_25 : decode cX1_live 25 = .ok (.getfield 31, 3) := by decide +kernel
theorem dX1_live_28 : decode cX1_live 28 = .ok (.iload_n 2, 1) := by decide +kernel
theorem dX1_live_29 : decode cX1_live 29 = .ok (.isub, 1) := by decide +kernel
theorem dX1_live_30 : decode cX1_live 30 = .ok (.sipush 336, 3) := by decide +kernel
theorem dX1_live_33 : decode cX1_live 33 = .ok (.invokestatic 156, 3) := by decide +kernel
theorem dX1_live_36 : decode cX1_live 36 = .ok (.aload_n 0, 1) := by decide +kernel
theorem dX1_live_37 : decode cX1_live 37 = .ok (.getfield 56, 3) := by decide +kernel
theorem dX1_live_40 : decode cX1_live 40 = .ok (.if_icmp .ne 10, 3) := by decide +kernel
theorem dX1_live_43 : decode cX1_live 43 = .ok (.iload_n 3, 1) := by decide +kernel
theorem dX1_live_44 : decode cX1_live 44 = .ok (.aload_n 1, 1) := by decide +kernel
theorem dX1_live_45 : decode cX1_live 45 = .ok (.invokevirtual 159, 3) := by decide +kernel
theorem dX1_live_48 : decode cX1_live 48 = .ok (.iadd, 1) := by decide +kernel
theorem dX1_live_49 : decode cX1_live 49 = .ok (.istore_n 3, 1) := by decide +kernel
theorem dX1_live_50 : decode cX1_live 50 = .ok (.aload_n 0, 1) := by decide +kernel
theorem dX1_live_51 : decode cX1_live 51 = .ok (.aload_n 1, 1) := by decide +kernel
theorem dX1_live_52 : decode cX1_live 52 = .ok (.invokevirtual 162, 3) := by decide +kernel
theorem dX1_live_55 : decode cX1_live 55 = .ok (.istore 4, 2) := by decide +kernel
theorem dX1_live_57 : decode cX1_live 57 = .ok (.iload_n 3, 1) := by decide +kernel
theorem dX1_live_58 : decode cX1_live 58 = .ok (.aload_n 1, 1) := by decide +kernel
theorem dX1_live_59 : decode cX1_live 59 = .ok (.iload 4, 2) := by decide +kernel
theorem dX1_live_61 : decode cX1_live 61 = .ok (.aload_n 0, 1) := by decide +kernel
theorem dX1_live_62 : decode cX1_live 62 = .ok (.getfield 53, 3) := by decide +kernel
theorem dX1_live_65 : decode cX1_live 65 = .ok (.invokevirtual 165, 3) := by decide +kernel
theorem dX1_live_68 : decode cX1_live 68 = .ok (.iadd, 1) := by decide +kernel
theorem dX1_live_69 : decode cX1_live 69 = .ok (.istore_n 3, 1) := by decide +kernel
theorem dX1_live_70 : decode cX1_live 70 = .ok (.aload_n 1, 1) := by decide +kernel
theorem dX1_live_71 : decode cX1_live 71 = .ok (.getfield 116, 3) := by decide +kernel
theorem dX1_live_74 : decode cX1_live 74 = .ok (.iload 4, 2) := by decide +kernel
theorem dX1_live_76 : decode cX1_live 76 = .ok (.if_icmp .eq 13, 3) := by decide +kernel
theorem dX1_live_79 : decode cX1_live 79 = .ok (.aload_n 1, 1) := by decide +kernel
theorem dX1_live_80 : decode cX1_live 80 = .ok (.getfield 150, 3) := by decide +kernel
theorem dX1_live_83 : decode cX1_live 83 = .ok (.iconst 4, 1) := by decide +kernel
theorem dX1_live_84 : decode cX1_live 84 = .ok (.dup2, 1) := by decide +kernel
theorem dX1_live_85 : decode cX1_live 85 = .ok (.iaload, 1) := by decide +kernel
theorem dX1_live_86 : decode cX1_live 86 = .ok (.iconst 1, 1) := by decide +kernel
theorem dX1_live_87 : decode cX1_live 87 = .ok (.iadd, 1) := by decide +kernel
theorem dX1_live_88 : decode cX1_live 88 = .ok (.iastore, 1) := by decide +kernel
theorem dX1_live_89 : decode cX1_live 89 = .ok (.aload_n 1, 1) := by decide +kernel
theorem dX1_live_90 : decode cX1_live 90 = .ok (.getfield 168, 3) := by decide +kernel
theorem dX1_live_93 : decode cX1_live 93 = .ok (.ifCond .ne 13, 3) := by decide +kernel
theorem dX1_live_96 : decode cX1_live 96 = .ok (.aload_n 1, 1) := by decide +kernel
theorem dX1_live_97 : decode cX1_live 97 = .ok (.getfield 150, 3) := by decide +kernel
theorem dX1_live_100 : decode cX1_live 100 = .ok (.iconst 5, 1) := by decide +kernel
theorem dX1_live_101 : decode cX1_live 101 = .ok (.dup2, 1) := by decide +kernel
theorem dX1_live_102 : decode cX1_live 102 = .ok (.iaload, 1) := by decide +kernel
theorem dX1_live_103 : decode cX1_live 103 = .ok (.iconst 1, 1) := by decide +kernel
theorem dX1_live_104 : decode cX1_live 104 = .ok (.iadd, 1) := by decide +kernel
theorem dX1_live_105 : decode cX1_live 105 = .ok (.iastore, 1) := by decide +kernel
theorem dX1_live_106 : decode cX1_live 106 = .ok (.aload_n 1, 1) := by decide +kernel
theorem dX1_live_107 : decode cX1_live 107 = .ok (.dup, 1) := by decide +kernel
theorem dX1_live_108 : decode cX1_live 108 = .ok (.getfield 126, 3) := by decide +kernel
theorem dX1_live_111 : decode cX1_live 111 = .ok (.aload_n 1, 1) := by decide +kernel
theorem dX1_live_112 : decode cX1_live 112 = .ok (.getfield 116, 3) := by decide +kernel
theorem dX1_live_115 : decode cX1_live 115 = .ok (.iadd, 1) := by decide +kernel
theorem dX1_live_116 : decode cX1_live 116 = .ok (.putfield 126, 3) := by decide +kernel
theorem dX1_live_119 : decode cX1_live 119 = .ok (.iload_n 3, 1) := by decide +kernel
theorem dX1_live_120 : decode cX1_live 120 = .ok (.ireturn, 1) := by decide +kernel
theorem dX1_changeTemperature_0 : decode cX1_changeTemperature 0 = .ok (.aload_n 1, 1) := by decide +kernel
theorem dX1_changeTemperature_1 : decode cX1_changeTemperature 1 = .ok (.getfield 105, 3) := by decide +kernel
theorem dX1_changeTemperature_4 : decode cX1_changeTemperature 4 = .ok (.istore_n 2, 1) := by decide +kernel
theorem dX1_changeTemperature_5 : decode cX1_changeTemperature 5 = .ok (.aload_n 1, 1) := by decide +kernel
theorem dX1_changeTemperature_6 : decode cX1_changeTemperature 6 = .ok (.getfield 171, 3) := by decide +kernel
theorem dX1_changeTemperature_9 : decode cX1_changeTemperature 9 = .ok (.aload_n 1, 1) := by decide +kernel
theorem dX1_changeTemperature_10 : decode cX1_changeTemperature 10 = .ok (.getfield 147, 3) := by decide +kernel
theorem dX1_changeTemperature_13 : decode cX1_changeTemperature 13 = .ok (.ifCond .eq 8, 3) := by decide +kernel
theorem dX1_changeTemperature_16 : decode cX1_changeTemperature 16 = .ok (.bipush 10, 2) := by decide +kernel
theorem dX1_changeTemperature_18 : decode cX1_changeTemperature 18 = .ok (.goto 4, 3) := by decide +kernel
theorem dX1_changeTemperature_21 : decode cX1_changeTemperature 21 = .ok (.iconst 0, 1) := by decide +kernel
theorem dX1_changeTemperature_22 : decode cX1_changeTemperature 22 = .ok (.iadd, 1) := by decide +kernel
theorem dX1_changeTemperature_23 : decode cX1_changeTemperature 23 = .ok (.istore_n 3, 1) := by decide +kernel
theorem dX1_changeTemperature_24 : decode cX1_changeTemperature 24 = .ok (.aload_n 1, 1) := by decide +kernel
theorem dX1_changeTemperature_25 : decode cX1_changeTemperature 25 = .ok (.getfield 116, 3) := by decide +kernel
theorem dX1_changeTemperature_28 : decode cX1_changeTemperature 28 = .ok (.aload_n 1, 1) := by decide +kernel
theorem dX1_changeTemperature_29 : decode cX1_changeTemperature 29 = .ok (.getfield 174, 3) := by decide +kernel
theorem dX1_changeTemperature_32 : decode cX1_changeTemperature 32 = .ok (.imul, 1) := by decide +kernel
theorem dX1_changeTemperature_33 : decode cX1_changeTemperature 33 = .ok (.bipush 100, 2) := by decide +kernel
theorem dX1_changeTemperature_35 : decode cX1_changeTemperature 35 = .ok (.invokestatic 177, 3) := by decide +kernel
theorem dX1_changeTemperature_38 : decode cX1_changeTemperature 38 = .ok (.istore 4, 2) := by decide +kernel
theorem dX1_changeTemperature_40 : decode cX1_changeTemperature 40 = .ok (.iload_n 3, 1) := by decide +kernel
theorem dX1_changeTemperature_41 : decode cX1_changeTemperature 41 = .ok (.iload_n 2, 1) := by decide +kernel
theorem dX1_changeTemperature_42 : decode cX1_changeTemperature 42 = .ok (.aload_n 0, 1) := by decide +kernel
theorem dX1_changeTemperature_43 : decode cX1_changeTemperature 43 = .ok (.getfield 35, 3) := by decide +kernel
theorem dX1_changeTemperature_46 : decode cX1_changeTemperature 46 = .ok (.isub, 1) := by decide +kernel
theorem dX1_changeTemperature_47 : decode cX1_changeTemperature 47 = .ok (.imul, 1) := by decide +kernel
theorem dX1_changeTemperature_48 : decode cX1_changeTemperature 48 = .ok (.bipush 100, 2) := by decide +kernel
theorem dX1_changeTemperature_50 : decode cX1_changeTemperature 50 = .ok (.invokestatic 177, 3) := by decide +kernel
theorem dX1_changeTemperature_53 : decode cX1_changeTemperature 53 = .ok (.istore 5, 2) := by decide +kernel
theorem dX1_changeTemperature_55 : decode cX1_changeTemperature 55 = .ok (.aload_n 1, 1) := by decide +kernel
theorem dX1_changeTemperature_56 : decode cX1_changeTemperature 56 = .ok (.iload_n 2, 1) := by decide +kernel
theorem dX1_changeTemperature_57 : decode cX1_changeTemperature 57 = .ok (.iload 4, 2) := by decide +kernel
theorem dX1_changeTemperature_59 : decode cX1_changeTemperature 59 = .ok (.iadd, 1) := by decide +kernel
theorem dX1_changeTemperature_60 : decode cX1_changeTemperature 60 = .ok (.iload 5, 2) := by decide +kernel
theorem dX1_changeTemperature_62 : decode cX1_changeTemperature 62 = .ok (.isub, 1) := by decide +kernel
theorem dX1_changeTemperature_63 : decode cX1_changeTemperature 63 = .ok (.putfield 105, 3) := by decide +kernel
theorem dX1_changeTemperature_66 : decode cX1_changeTemperature 66 = .ok (.iload_n 2, 1) := by decide +kernel
theorem dX1_changeTemperature_67 : decode cX1_changeTemperature 67 = .ok (.aload_n 1, 1) := by decide +kernel
theorem dX1_changeTemperature_68 : decode cX1_changeTemperature 68 = .ok (.getfield 105, 3) := by decide +kernel
theorem dX1_changeTemperature_71 : decode cX1_changeTemperature 71 = .ok (.isub, 1) := by decide +kernel
theorem dX1_changeTemperature_72 : decode cX1_changeTemperature 72 = .ok (.aload_n 0, 1) := by decide +kernel
theorem dX1_changeTemperature_73 : decode cX1_changeTemperature 73 = .ok (.getfield 38, 3) := by decide +kernel
theorem dX1_changeTemperature_76 : decode cX1_changeTemperature 76 = .ok (.if_icmp .lt 24, 3) := by decide +kernel
theorem dX1_changeTemperature_79 : decode cX1_changeTemperature 79 = .ok (.aload_n 1, 1) := by decide +kernel
theorem dX1_changeTemperature_80 : decode cX1_changeTemperature 80 = .ok (.aload_n 0, 1) := by decide +kernel
theorem dX1_changeTemperature_81 : decode cX1_changeTemperature 81 = .ok (.getfield 41, 3) := by decide +kernel
theorem dX1_changeTemperature_84 : decode cX1_changeTemperature 84 = .ok (.putfield 108, 3) := by decide +kernel
theorem dX1_changeTemperature_87 : decode cX1_changeTemperature 87 = .ok (.aload_n 1, 1) := by decide +kernel
theorem dX1_changeTemperature_88 : decode cX1_changeTemperature 88 = .ok (.getfield 150, 3) := by decide +kernel
theorem dX1_changeTemperature_91 : decode cX1_changeTemperature 91 = .ok (.iconst 1, 1) := by decide +kernel
theorem dX1_changeTemperature_92 : decode cX1_changeTemperature 92 = .ok (.dup2, 1) := by decide +kernel
theorem dX1_changeTemperature_93 : decode cX1_changeTemperature 93 = .ok (.iaload, 1) := by decide +kernel
theorem dX1_changeTemperature_94 : decode cX1_changeTemperature 94 = .ok (.iconst 1, 1) := by decide +kernel
theorem dX1_changeTemperature_95 : decode cX1_changeTemperature 95 = .ok (.iadd, 1) := by decide +kernel
theorem dX1_changeTemperature_96 : decode cX1_changeTemperature 96 = .ok (.iastore, 1) := by decide +kernel
theorem dX1_changeTemperature_97 : decode cX1_changeTemperature 97 = .ok (.goto 20, 3) := by decide +kernel
theorem dX1_changeTemperature_100 : decode cX1_changeTemperature 100 = .ok (.aload_n 1, 1) := by decide +kernel
theorem dX1_changeTemperature_101 : decode cX1_changeTemperature 101 = .ok (.getfield 108, 3) := by decide +kernel
theorem dX1_changeTemperature_104 : decode cX1_changeTemperature 104 = .ok (.ifCond .le 13, 3) := by decide +kernel
theorem dX1_changeTemperature_107 : decode cX1_changeTemperature 107 = .ok (.aload_n 1, 1) := by decide +kernel
theorem dX1_changeTemperature_108 : decode cX1_changeTemperature 108 = .ok (.dup, 1) := by decide +kernel
theorem dX1_changeTemperature_109 : decode cX1_changeTemperature 109 = .ok (.getfield 108, 3) := by decide +kernel
theorem dX1_changeTemperature_112 : decode cX1_changeTemperature 112 = .ok (.iconst 1, 1) := by decide +kernel
theorem dX1_changeTemperature_113 : decode cX1_changeTemperature 113 = .ok (.isub, 1) := by decide +kernel
theorem dX1_changeTemperature_114 : decode cX1_changeTemperature 114 = .ok (.putfield 108, 3) := by decide +kernel
theorem dX1_changeTemperature_117 : decode cX1_changeTemperature 117 = .ok (.return_, 1) := by decide +kernel
