/-! decode rows, out of the printed names -/
theorem dX5_init_0 : decode cX5_init 0 = .ok (.aload_n 0, 1) := by decide +kernel
theorem dX5_init_1 : decode cX5_init 1 = .ok (.invokespecial 3, 3) := by decide +kernel
theorem dX5_init_4 : decode cX5_init 4 = .ok (.aload_n 0, 1) := by decide +kernel
theorem dX5_init_5 : decode cX5_init 5 = .ok (.sipush 501, 3) := by decide +kernel
theorem dX5_init_8 : decode cX5_init 8 = .ok (.newarray .int, 2) := by decide +kernel
theorem dX5_init_10 : decode cX5_init 10 = .ok (.putfield 9, 3) := by decide +kernel
theorem dX5_init_13 : decode cX5_init 13 = .ok (.aload_n 0, 1) := by decide +kernel
theorem dX5_init_14 : decode cX5_init 14 = .ok (.sipush 501, 3) := by decide +kernel
theorem dX5_init_17 : decode cX5_init 17 = .ok (.newarray .int, 2) := by decide +kernel
theorem dX5_init_19 : decode cX5_init 19 = .ok (.putfield 15, 3) := by decide +kernel
theorem dX5_init_22 : decode cX5_init 22 = .ok (.aload_n 0, 1) := by decide +kernel
theorem dX5_init_23 : decode cX5_init 23 = .ok (.sipush 501, 3) := by decide +kernel
theorem dX5_init_26 : decode cX5_init 26 = .ok (.newarray .int, 2) := by decide +kernel
theorem dX5_init_28 : decode cX5_init 28 = .ok (.putfield 18, 3) := by decide +kernel
theorem dX5_init_31 : decode cX5_init 31 = .ok (.aload_n 0, 1) := by decide +kernel
theorem dX5_init_32 : decode cX5_init 32 = .ok (.sipush 501, 3) := by decide +kernel
theorem dX5_init_35 : decode cX5_init 35 = .ok (.newarray .int, 2) := by decide +kernel
theorem dX5_init_37 : decode cX5_init 37 = .ok (.putfield 21, 3) := by decide +kernel
theorem dX5_init_40 : decode cX5_init 40 = .ok (.aload_n 0, 1) := by decide +kernel
theorem dX5_init_41 : decode cX5_init 41 = .ok (.sipush 501, 3) := by decide +kernel
theorem dX5_init_44 : decode cX5_init 44 = .ok (.anewarray 24, 3) := by decide +kernel
theorem dX5_init_47 : decode cX5_init 47 = .ok (.putfield 26, 3) := by decide +kernel
theorem dX5_init_50 : decode cX5_init 50 = .ok (.return_, 1) := by decide +kernel
theorem dX5_read_0 : decode cX5_read 0 = .ok (.aload_n 0, 1) := by decide +kernel
theorem dX5_read_1 : decode cX5_read 1 = .ok (.iconst 0, 1) := by decide +kernel
theorem dX5_read_2 : decode cX5_read 2 = .ok (.putfield 30, 3) := by decide +kernel
theorem dX5_read_5 : decode cX5_read 5 = .ok (.iconst 0, 1) := by decide +kernel
theorem dX5_read_6 : decode cX5_read 6 = .ok (.istore_n 3, 1) := by decide +kernel
theorem dX5_read_7 : decode cX5_read 7 = .ok (.iconst 0, 1) := by decide +kernel
theorem dX5_read_8 : decode cX5_read 8 = .ok (.istore 4, 2) := by decide +kernel
theorem dX5_read_10 : decode cX5_read 10 = .ok (.iload 4, 2) := by decide +kernel
theorem dX5_read_12 : decode cX5_read 12 = .ok (.iload_n 2, 1) := by decide +kernel
theorem dX5_read_13 : decode cX5_read 13 = .ok (.if_icmp .ge 54, 3) := by decide +kernel
theorem dX5_read_16 : decode cX5_read 16 = .ok (.aload_n 1, 1) := by decide +kernel
theorem dX5_read_17 : decode cX5_read 17 = .ok (.iload 4, 2) := by decide +kernel
theorem dX5_read_19 : decode cX5_read 19 = .ok (.baload, 1) := by decide +kernel
theorem dX5_read_20 : decode cX5_read 20 = .ok (.invokestatic 34, 3) := by decide +kernel
theorem dX5_read_23 : decode cX5_read 23 = .ok (.istore 5, 2) := by decide +kernel
theorem dX5_read_25 : decode cX5_read 25 = .ok (.iload 5, 2) := by decide +kernel
theorem dX5_read_27 : decode cX5_read 27 = .ok (.ifCond .eq 31, 3) := by decide +kernel
theorem dX5_read_30 : decode cX5_read 30 = .ok (.iload 5, 2) := by decide +kernel
theorem dX5_read_32 : decode cX5_read 32 = .ok (.iload_n 3, 1) := by decide +kernel
theorem dX5_read_33 : decode cX5_read 33 = .ok (.if_icmp .ne 9, 3) := by decide +kernel
theorem dX5_read_36 : decode cX5_read 36 = .ok (.iload 5, 2) := by decide +kernel
theorem dX5_read_38 : decode cX5_read 38 = .ok (.iconst 3, 1) := by decide +kernel
theorem dX5_read_39 : decode cX5_read 39 = .ok (.if_icmp .ne 11, 3) := by decide +kernel
theorem dX5_read_42 : decode cX5_read 42 = .ok (.aload_n 0, 1) := by decide +kernel
theorem dX5_read_43 : decode cX5_read 43 = .ok (.iload 5, 2) := by decide +kernel
theorem dX5_read_45 : decode cX5_read 45 = .ok (.iload 4, 2) := by decide +kernel
theorem dX5_read_47 : decode cX5_read 47 = .ok (.invokevirtual 38, 3) := by decide +kernel
theorem dX5_read_50 : decode cX5_read 50 = .ok (.aload_n 0, 1) := by decide +kernel
theorem dX5_read_51 : decode cX5_read 51 = .ok (.aload_n 1, 1) := by decide +kernel
theorem dX5_read_52 : decode cX5_read 52 = .ok (.iload 4, 2) := by decide +kernel
theorem dX5_read_54 : decode cX5_read 54 = .ok (.baload, 1) := by decide +kernel
theorem dX5_read_55 : decode cX5_read 55 = .ok (.invokevirtual 42, 3) := by decide +kernel
theorem dX5_read_58 : decode cX5_read 58 = .ok (.iload 5, 2) := by decide +kernel
theorem dX5_read_60 : decode cX5_read 60 = .ok (.istore_n 3, 1) := by decide +kernel
theorem dX5_read_61 : decode cX5_read 61 = .ok (.iinc 4 1, 3) := by decide +kernel
theorem dX5_read_64 : decode cX5_read 64 = .ok (.goto (-54), 3) := by decide +kernel
theorem dX5_read_67 : decode cX5_read 67 = .ok (.aload_n 0, 1) := by decide +kernel
theorem dX5_read_68 : decode cX5_read 68 = .ok (.iconst 4, 1) := by decide +kernel
theorem dX5_read_69 : decode cX5_read 69 = .ok (.iload_n 2, 1) := by decide +kernel
theorem dX5_read_70 : decode cX5_read 70 = .ok (.invokevirtual 38, 3) := by decide +kernel
theorem dX5_read_73 : decode cX5_read 73 = .ok (.iconst 0, 1) := by decide +kernel
theorem dX5_read_74 : decode cX5_read 74 = .ok (.istore 4, 2) := by decide +kernel
theorem dX5_read_76 : decode cX5_read 76 = .ok (.iload 4, 2) := by decide +kernel
theorem dX5_read_78 : decode cX5_read 78 = .ok (.aload_n 0, 1) := by decide +kernel
theorem dX5_read_79 : decode cX5_read 79 = .ok (.getfield 30, 3) := by decide +kernel
theorem dX5_read_82 : decode cX5_read 82 = .ok (.if_icmp .ge 49, 3) := by decide +kernel
theorem dX5_read_85 : decode cX5_read 85 = .ok (.aload_n 0, 1) := by decide +kernel
theorem dX5_read_86 : decode cX5_read 86 = .ok (.getfield 26, 3) := by decide +kernel
theorem dX5_read_89 : decode cX5_read 89 = .ok (.iload 4, 2) := by decide +kernel
theorem dX5_read_91 : decode cX5_read 91 = .ok (.aload_n 0, 1) := by decide +kernel
theorem dX5_read_92 : decode cX5_read 92 = .ok (.getfield 9, 3) := by decide +kernel
theorem dX5_read_95 : decode cX5_read 95 = .ok (.iload 4, 2) := by decide +kernel
theorem dX5_read_97 : decode cX5_read 97 = .ok (.iaload, 1) := by decide +kernel
theorem dX5_read_98 : decode cX5_read 98 = .ok (.iconst 1, 1) := by decide +kernel
theorem dX5_read_99 : decode cX5_read 99 = .ok (.if_icmp .ne 24, 3) := by decide +kernel
theorem dX5_read_102 : decode cX5_read 102 = .ok (.aload_n 1, 1) := by decide +kernel
theorem dX5_read_103 : decode cX5_read 103 = .ok (.aload_n 0, 1) := by decide +kernel
theorem dX5_read_104 : decode cX5_read 104 = .ok (.getfield 15, 3) := by decide +kernel
theorem dX5_read_107 : decode cX5_read 107 = .ok (.iload 4, 2) := by decide +kernel
theorem dX5_read_109 : decode cX5_read 109 = .ok (.iaload, 1) := by decide +kernel
theorem dX5_read_110 : decode cX5_read 110 = .ok (.aload_n 0, 1) := by decide +kernel
theorem dX5_read_111 : decode cX5_read 111 = .ok (.getfield 18, 3) := by decide +kernel
theorem dX5_read_114 : decode cX5_read 114 = .ok (.iload 4, 2) := by decide +kernel
theorem dX5_read_116 : decode cX5_read 116 = .ok (.iaload, 1) := by decide +kernel
theorem dX5_read_117 : decode cX5_read 117 = .ok (.invokestatic 46, 3) := by decide +kernel
theorem dX5_read_120 : decode cX5_read 120 = .ok (.goto 4, 3) := by decide +kernel
theorem dX5_read_123 : decode cX5_read 123 = .ok (.aconst_null, 1) := by decide +kernel
theorem dX5_read_124 : decode cX5_read 124 = .ok (.aastore, 1) := by decide +kernel
theorem dX5_read_125 : decode cX5_read 125 = .ok (.iinc 4 1, 3) := by decide +kernel
theorem dX5_read_128 : decode cX5_read 128 = .ok (.goto (-52), 3) := by decide +kernel
theorem dX5_read_131 : decode cX5_read 131 = .ok (.return_, 1) := by decide +kernel
theorem dX5_kindOf_0 : decode cX5_kindOf 0 = .ok (.iload_n 0, 1) := by decide +kernel
theorem dX5_kindOf_1 : decode cX5_kindOf 1 = .ok (.bipush 32, 2) := by decide +kernel
theorem dX5_kindOf_3 : decode cX5_kindOf 3 = .ok (.if_icmp .eq 9, 3) := by decide +kernel
theorem dX5_kindOf_6 : decode cX5_kindOf 6 = .ok (.iload_n 0, 1) := by decide +kernel
theorem dX5_kindOf_7 : decode cX5_kindOf 7 = .ok (.bipush 10, 2) := by decide +kernel
theorem dX5_kindOf_9 : decode cX5_kindOf 9 = .ok (.if_icmp .ne 5, 3) := by decide +kernel
theorem dX5_kindOf_12 : decode cX5_kindOf 12 = .ok (.iconst 0, 1) := by decide +kernel
theorem dX5_kindOf_13 : decode cX5_kindOf 13 = .ok (.ireturn, 1) := by decide +kernel
theorem dX5_kindOf_14 : decode cX5_kindOf 14 = .ok (.iload_n 0, 1) := by decide +kernel
theorem dX5_kindOf_15 : decode cX5_kindOf 15 = .ok (.bipush 97, 2) := by decide +kernel
theorem dX5_kindOf_17 : decode cX5_kindOf 17 = .ok (.if_icmp .lt 11, 3) := by decide +kernel
theorem dX5_kindOf_20 : decode cX5_kindOf 20 = .ok (.iload_n 0, 1) := by decide +kernel
theorem dX5_kindOf_21 : decode cX5_kindOf 21 = .ok (.bipush 122, 2) := by decide +kernel
theorem dX5_kindOf_23 : decode cX5_kindOf 23 = .ok (.if_icmp .gt 5, 3) := by decide +kernel
theorem dX5_kindOf_26 : decode cX5_kindOf 26 = .ok (.iconst 1, 1) := by decide +kernel
theorem dX5_kindOf_27 : decode cX5_kindOf 27 = .ok (.ireturn, 1) := by decide +kernel
theorem dX5_kindOf_28 : decode cX5_kindOf 28 = .ok (.iload_n 0, 1) := by decide +kernel
theorem dX5_kindOf_29 : decode cX5_kindOf 29 = .ok (.bipush 48, 2) := by decide +kernel
theorem dX5_kindOf_31 : decode cX5_kindOf 31 = .ok (.if_icmp .lt 13, 3) := by decide +kernel
theorem dX5_kindOf_34 : decode cX5_kindOf 34 = .ok (.iload_n 0, 1) := by decide +kernel
theorem dX5_kindOf_35 : decode cX5_kindOf 35 = .ok (.bipush 57, 2) := by decide +kernel
theorem dX5_kindOf_37 : decode cX5_kindOf 37 = .ok (.if_icmp .gt 7, 3) := by decide +kernel
theorem dX5_kindOf_40 : decode cX5_kindOf 40 = .ok (.iconst 2, 1) := by decide +kernel
theorem dX5_kindOf_41 : decode cX5_kindOf 41 = .ok (.goto 4, 3) := by decide +kernel
theorem dX5_kindOf_44 : decode cX5_kindOf 44 = .ok (.iconst 3, 1) := by decide +kernel
theorem dX5_kindOf_45 : decode cX5_kindOf 45 = .ok (.ireturn, 1) := by decide +kernel
theorem dX5_begin_0 : decode cX5_begin 0 = .ok (.aload_n 0, 1) := by decide +kernel
theorem dX5_begin_1 : decode cX5_begin 1 = .ok (.getfield 9, 3) := by decide +kernel
theorem dX5_begin_4 : decode cX5_begin 4 = .ok (.aload_n 0, 1) := by decide +kernel
theorem dX5_begin_5 : decode cX5_begin 5 = .ok (.getfield 30, 3) := by decide +kernel
theorem dX5_begin_8 : decode cX5_begin 8 = .ok (.iload_n 1, 1) := by decide +kernel
theorem dX5_begin_9 : decode cX5_begin 9 = .ok (.iastore, 1) := by decide +kernel
theorem dX5_begin_10 : decode cX5_begin 10 = .ok (.aload_n 0, 1) := by decide +kernel
theorem dX5_begin_11 : decode cX5_begin 11 = .ok (.getfield 15, 3) := by decide +kernel
theorem dX5_begin_14 : decode cX5_begin 14 = .ok (.aload_n 0, 1) := by decide +kernel
theorem dX5_begin_15 : decode cX5_begin 15 = .ok (.getfield 30, 3) := by decide +kernel
theorem dX5_begin_18 : decode cX5_begin 18 = .ok (.iload_n 2, 1) := by decide +kernel
theorem dX5_begin_19 : decode cX5_begin 19 = .ok (.iastore, 1) := by decide +kernel
theorem dX5_begin_20 : decode cX5_begin 20 = .ok (.aload_n 0, 1) := by decide +kernel
theorem dX5_begin_21 : decode cX5_begin 21 = .ok (.getfield 18, 3) := by decide +kernel
theorem dX5_begin_24 : decode cX5_begin 24 = .ok (.aload_n 0, 1) := by decide +kernel
theorem dX5_begin_25 : decode cX5_begin 25 = .ok (.getfield 30, 3) := by decide +kernel
theorem dX5_begin_28 : decode cX5_begin 28 = .ok (.iconst 0, 1) := by decide +kernel
theorem dX5_begin_29 : decode cX5_begin 29 = .ok (.iastore, 1) := by decide +kernel
theorem dX5_begin_30 : decode cX5_begin 30 = .ok (.aload_n 0, 1) := by decide +kernel
theorem dX5_begin_31 : decode cX5_begin 31 = .ok (.getfield 21, 3) := by decide +kernel
theorem dX5_begin_34 : decode cX5_begin 34 = .ok (.aload_n 0, 1) := by decide +kernel
theorem dX5_begin_35 : decode cX5_begin 35 = .ok (.getfield 30, 3) := by decide +kernel
theorem dX5_begin_38 : decode cX5_begin 38 = .ok (.iconst 0, 1) := by decide +kernel
theorem dX5_begin_39 : decode cX5_begin 39 = .ok (.iastore, 1) := by decide +kernel
theorem dX5_begin_40 : decode cX5_begin 40 = .ok (.aload_n 0, 1) := by decide +kernel
theorem dX5_begin_41 : decode cX5_begin 41 = .ok (.dup, 1) := by decide +kernel
theorem dX5_begin_42 : decode cX5_begin 42 = .ok (.getfield 30, 3) := by decide +kernel
theorem dX5_begin_45 : decode cX5_begin 45 = .ok (.iconst 1, 1) := by decide +kernel
theorem dX5_begin_46 : decode cX5_begin 46 = .ok (.iadd, 1) := by decide +kernel
theorem dX5_begin_47 : decode cX5_begin 47 = .ok (.putfield 30, 3) := by decide +kernel
theorem dX5_begin_50 : decode cX5_begin 50 = .ok (.return_, 1) := by decide +kernel
theorem dX5_extend_0 : decode cX5_extend 0 = .ok (.aload_n 0, 1) := by decide +kernel
theorem dX5_extend_1 : decode cX5_extend 1 = .ok (.getfield 30, 3) := by decide +kernel
theorem dX5_extend_4 : decode cX5_extend 4 = .ok (.iconst 1, 1) := by decide +kernel
theorem dX5_extend_5 : decode cX5_extend 5 = .ok (.isub, 1) := by decide +kernel
theorem dX5_extend_6 : decode cX5_extend 6 = .ok (.istore_n 2, 1) := by decide +kernel
theorem dX5_extend_7 : decode cX5_extend 7 = .ok (.aload_n 0, 1) := by decide +kernel
theorem dX5_extend_8 : decode cX5_extend 8 = .ok (.getfield 18, 3) := by decide +kernel
theorem dX5_extend_11 : decode cX5_extend 11 = .ok (.iload_n 2, 1) := by decide +kernel
theorem dX5_extend_12 : decode cX5_extend 12 = .ok (.dup2, 1) := by decide +kernel
theorem dX5_extend_13 : decode cX5_extend 13 = .ok (.iaload, 1) := by decide +kernel
theorem dX5_extend_14 : decode cX5_extend 14 = .ok (.iconst 1, 1) := by decide +kernel
theorem dX5_extend_15 : decode cX5_extend 15 = .ok (.iadd, 1) := by decide +kernel
theorem dX5_extend_16 : decode cX5_extend 16 = .ok (.iastore, 1) := by decide +kernel
theorem dX5_extend_17 : decode cX5_extend 17 = .ok (.aload_n 0, 1) := by decide +kernel
theorem dX5_extend_18 : decode cX5_extend 18 = .ok (.getfield 9, 3) := by decide +kernel
theorem dX5_extend_21 : decode cX5_extend 21 = .ok (.iload_n 2, 1) := by decide +kernel
theorem dX5_extend_22 : decode cX5_extend 22 = .ok (.iaload, 1) := by decide +kernel
theorem dX5_extend_23 : decode cX5_extend 23 = .ok (.iconst 2, 1) := by decide +kernel
theorem dX5_extend_24 : decode cX5_extend 24 = .ok (.if_icmp .ne 31, 3) := by decide +kernel
theorem dX5_extend_27 : decode cX5_extend 27 = .ok (.aload_n 0, 1) := by decide +kernel
theorem dX5_extend_28 : decode cX5_extend 28 = .ok (.getfield 21, 3) := by decide +kernel
theorem dX5_extend_31 : decode cX5_extend 31 = .ok (.iload_n 2, 1) := by decide +kernel
theorem dX5_extend_32 : decode cX5_extend 32 = .ok (.aload_n 0, 1) := by decide +kernel
theorem dX5_extend_33 : decode cX5_extend 33 = .ok (.getfield 21, 3) := by decide +kernel
theorem dX5_extend_36 : decode cX5_extend 36 = .ok (.iload_n 2, 1) := by decide +kernel
theorem dX5_extend_37 : decode cX5_extend 37 = .ok (.iaload, 1) := by decide +kernel
theorem dX5_extend_38 : decode cX5_extend 38 = .ok (.bipush 10, 2) := by decide +kernel
theorem dX5_extend_40 : decode cX5_extend 40 = .ok (.imul, 1) := by decide +kernel
theorem dX5_extend_41 : decode cX5_extend 41 = .ok (.iload_n 1, 1) := by decide +kernel
theorem dX5_extend_42 : decode cX5_extend 42 = .ok (.bipush 48, 2) := by decide +kernel
theorem dX5_extend_44 : decode cX5_extend 44 = .ok (.isub, 1) := by decide +kernel
theorem dX5_extend_45 : decode cX5_extend 45 = .ok (.iadd, 1) := by decide +kernel
theorem dX5_extend_46 : decode cX5_extend 46 = .ok (.ldc 50, 2) := by decide +kernel
theorem dX5_extend_48 : decode cX5_extend 48 = .ok (.invokestatic 51, 3) := by decide +kernel
theorem dX5_extend_51 : decode cX5_extend 51 = .ok (.iastore, 1) := by decide +kernel
theorem dX5_extend_52 : decode cX5_extend 52 = .ok (.goto 10, 3) := by decide +kernel
theorem dX5_extend_55 : decode cX5_extend 55 = .ok (.aload_n 0, 1) := by decide +kernel
theorem dX5_extend_56 : decode cX5_extend 56 = .ok (.getfield 21, 3) := by decide +kernel
theorem dX5_extend_59 : decode cX5_extend 59 = .ok (.iload_n 2, 1) := by decide +kernel
theorem dX5_extend_60 : decode cX5_extend 60 = .ok (.iload_n 1, 1) := by decide +kernel
theorem dX5_extend_61 : decode cX5_extend 61 = .ok (.iastore, 1) := by decide +kernel
theorem dX5_extend_62 : decode cX5_extend 62 = .ok (.return_, 1) := by decide +kernel
theorem dX5_keywordAt_0 : decode cX5_keywordAt 0 = .ok (.getstatic 57, 3) := by decide +kernel
theorem dX5_keywordAt_3 : decode cX5_keywordAt 3 = .ok (.astore_n 3, 1) := by decide +kernel
theorem dX5_keywordAt_4 : decode cX5_keywordAt 4 = .ok (.aload_n 3, 1) := by decide +kernel
theorem dX5_keywordAt_5 : decode cX5_keywordAt 5 = .ok (.arraylength, 1) := by decide +kernel
theorem dX5_keywordAt_6 : decode cX5_keywordAt 6 = .ok (.istore 4, 2) := by decide +kernel
theorem dX5_keywordAt_8 : decode cX5_keywordAt 8 = .ok (.iconst 0, 1) := by decide +kernel
theorem dX5_keywordAt_9 : decode cX5_keywordAt 9 = .ok (.istore 5, 2) := by decide +kernel
theorem dX5_keywordAt_11 : decode cX5_keywordAt 11 = .ok (.iload 5, 2) := by decide +kernel
theorem dX5_keywordAt_13 : decode cX5_keywordAt 13 = .ok (.iload 4, 2) := by decide +kernel
theorem dX5_keywordAt_15 : decode cX5_keywordAt 15 = .ok (.if_icmp .ge 32, 3) := by decide +kernel
theorem dX5_keywordAt_18 : decode cX5_keywordAt 18 = .ok (.aload_n 3, 1) := by decide +kernel
theorem dX5_keywordAt_19 : decode cX5_keywordAt 19 = .ok (.iload 5, 2) := by decide +kernel
theorem dX5_keywordAt_21 : decode cX5_keywordAt 21 = .ok (.aaload, 1) := by decide +kernel
theorem dX5_keywordAt_22 : decode cX5_keywordAt 22 = .ok (.astore 6, 2) := by decide +kernel
theorem dX5_keywordAt_24 : decode cX5_keywordAt 24 = .ok (.aload_n 0, 1) := by decide +kernel
theorem dX5_keywordAt_25 : decode cX5_keywordAt 25 = .ok (.iload_n 1, 1) := by decide +kernel
theorem dX5_keywordAt_26 : decode cX5_keywordAt 26 = .ok (.iload_n 2, 1) := by decide +kernel
theorem dX5_keywordAt_27 : decode cX5_keywordAt 27 = .ok (.aload 6, 2) := by decide +kernel
theorem dX5_keywordAt_29 : decode cX5_keywordAt 29 = .ok (.getfield 60, 3) := by decide +kernel
theorem dX5_keywordAt_32 : decode cX5_keywordAt 32 = .ok (.invokestatic 64, 3) := by decide +kernel
theorem dX5_keywordAt_35 : decode cX5_keywordAt 35 = .ok (.ifCond .eq 6, 3) := by decide +kernel
theorem dX5_keywordAt_38 : decode cX5_keywordAt 38 = .ok (.aload 6, 2) := by decide +kernel
theorem dX5_keywordAt_40 : decode cX5_keywordAt 40 = .ok (.areturn, 1) := by decide +kernel
theorem dX5_keywordAt_41 : decode cX5_keywordAt 41 = .ok (.iinc 5 1, 3) := by decide +kernel
theorem dX5_keywordAt_44 : decode cX5_keywordAt 44 = .ok (.goto (-33), 3) := by decide +kernel
theorem dX5_keywordAt_47 : decode cX5_keywordAt 47 = .ok (.aconst_null, 1) := by decide +kernel
theorem dX5_keywordAt_48 : decode cX5_keywordAt 48 = .ok (.areturn, 1) := by decide +kernel
