/-! decode rows, out of the printed names -/
theorem dX7_thrown_0 : decode cX7_thrown 0 = .ok (.aload_n 0, 1) := by decide +kernel
theorem dX7_thrown_1 : decode cX7_thrown 1 = .ok (.getfield 3, 3) := by decide +kernel
theorem dX7_thrown_4 : decode cX7_thrown 4 = .ok (.ireturn, 1) := by decide +kernel
theorem dX7_in_0 : decode cX7_in 0 = .ok (.lload_n 0, 1) := by decide +kernel
theorem dX7_in_1 : decode cX7_in 1 = .ok (.lload_n 2, 1) := by decide +kernel
theorem dX7_in_2 : decode cX7_in 2 = .ok (.lcmp, 1) := by decide +kernel
theorem dX7_in_3 : decode cX7_in 3 = .ok (.ifCond .lt 14, 3) := by decide +kernel
theorem dX7_in_6 : decode cX7_in 6 = .ok (.lload_n 0, 1) := by decide +kernel
theorem dX7_in_7 : decode cX7_in 7 = .ok (.lload 4, 2) := by decide +kernel
theorem dX7_in_9 : decode cX7_in 9 = .ok (.lcmp, 1) := by decide +kernel
theorem dX7_in_10 : decode cX7_in 10 = .ok (.ifCond .gt 7, 3) := by decide +kernel
theorem dX7_in_13 : decode cX7_in 13 = .ok (.iconst 1, 1) := by decide +kernel
theorem dX7_in_14 : decode cX7_in 14 = .ok (.goto 4, 3) := by decide +kernel
theorem dX7_in_17 : decode cX7_in 17 = .ok (.iconst 0, 1) := by decide +kernel
theorem dX7_in_18 : decode cX7_in 18 = .ok (.ireturn, 1) := by decide +kernel
theorem dX7_passes3_0 : decode cX7_passes3 0 = .ok (.aload_n 0, 1) := by decide +kernel
theorem dX7_passes3_1 : decode cX7_passes3 1 = .ok (.iload_n 1, 1) := by decide +kernel
theorem dX7_passes3_2 : decode cX7_passes3 2 = .ok (.ifCond .ne 7, 3) := by decide +kernel
theorem dX7_passes3_5 : decode cX7_passes3 5 = .ok (.iconst 1, 1) := by decide +kernel
theorem dX7_passes3_6 : decode cX7_passes3 6 = .ok (.goto 20, 3) := by decide +kernel
theorem dX7_passes3_9 : decode cX7_passes3 9 = .ok (.iload_n 2, 1) := by decide +kernel
theorem dX7_passes3_10 : decode cX7_passes3 10 = .ok (.ifCond .ne 7, 3) := by decide +kernel
theorem dX7_passes3_13 : decode cX7_passes3 13 = .ok (.iconst 2, 1) := by decide +kernel
theorem dX7_passes3_14 : decode cX7_passes3 14 = .ok (.goto 12, 3) := by decide +kernel
theorem dX7_passes3_17 : decode cX7_passes3 17 = .ok (.iload_n 3, 1) := by decide +kernel
theorem dX7_passes3_18 : decode cX7_passes3 18 = .ok (.ifCond .ne 7, 3) := by decide +kernel
theorem dX7_passes3_21 : decode cX7_passes3 21 = .ok (.iconst 3, 1) := by decide +kernel
theorem dX7_passes3_22 : decode cX7_passes3 22 = .ok (.goto 4, 3) := by decide +kernel
theorem dX7_passes3_25 : decode cX7_passes3 25 = .ok (.iconst 0, 1) := by decide +kernel
theorem dX7_passes3_26 : decode cX7_passes3 26 = .ok (.putfield 3, 3) := by decide +kernel
theorem dX7_passes3_29 : decode cX7_passes3 29 = .ok (.aload_n 0, 1) := by decide +kernel
theorem dX7_passes3_30 : decode cX7_passes3 30 = .ok (.getfield 3, 3) := by decide +kernel
theorem dX7_passes3_33 : decode cX7_passes3 33 = .ok (.ifCond .ne 7, 3) := by decide +kernel
theorem dX7_passes3_36 : decode cX7_passes3 36 = .ok (.iconst 1, 1) := by decide +kernel
theorem dX7_passes3_37 : decode cX7_passes3 37 = .ok (.goto 4, 3) := by decide +kernel
theorem dX7_passes3_40 : decode cX7_passes3 40 = .ok (.iconst 0, 1) := by decide +kernel
theorem dX7_passes3_41 : decode cX7_passes3 41 = .ok (.ireturn, 1) := by decide +kernel
theorem dX7_passes2_0 : decode cX7_passes2 0 = .ok (.aload_n 0, 1) := by decide +kernel
theorem dX7_passes2_1 : decode cX7_passes2 1 = .ok (.iload_n 1, 1) := by decide +kernel
theorem dX7_passes2_2 : decode cX7_passes2 2 = .ok (.iload_n 2, 1) := by decide +kernel
theorem dX7_passes2_3 : decode cX7_passes2 3 = .ok (.iconst 1, 1) := by decide +kernel
theorem dX7_passes2_4 : decode cX7_passes2 4 = .ok (.invokevirtual 7, 3) := by decide +kernel
theorem dX7_passes2_7 : decode cX7_passes2 7 = .ok (.ireturn, 1) := by decide +kernel
theorem dX7_passes_0 : decode cX7_passes 0 = .ok (.aload_n 0, 1) := by decide +kernel
theorem dX7_passes_1 : decode cX7_passes 1 = .ok (.iload_n 1, 1) := by decide +kernel
theorem dX7_passes_2 : decode cX7_passes 2 = .ok (.iconst 1, 1) := by decide +kernel
theorem dX7_passes_3 : decode cX7_passes 3 = .ok (.iconst 1, 1) := by decide +kernel
theorem dX7_passes_4 : decode cX7_passes 4 = .ok (.invokevirtual 7, 3) := by decide +kernel
theorem dX7_passes_7 : decode cX7_passes 7 = .ok (.ireturn, 1) := by decide +kernel
theorem dX7_init_0 : decode cX7_init 0 = .ok (.aload_n 0, 1) := by decide +kernel
theorem dX7_init_1 : decode cX7_init 1 = .ok (.invokespecial 11, 3) := by decide +kernel
theorem dX7_init_4 : decode cX7_init 4 = .ok (.aload_n 0, 1) := by decide +kernel
theorem dX7_init_5 : decode cX7_init 5 = .ok (.sipush 467, 3) := by decide +kernel
theorem dX7_init_8 : decode cX7_init 8 = .ok (.newarray .int, 2) := by decide +kernel
theorem dX7_init_10 : decode cX7_init 10 = .ok (.putfield 17, 3) := by decide +kernel
theorem dX7_init_13 : decode cX7_init 13 = .ok (.aload_n 0, 1) := by decide +kernel
theorem dX7_init_14 : decode cX7_init 14 = .ok (.sipush 467, 3) := by decide +kernel
theorem dX7_init_17 : decode cX7_init 17 = .ok (.newarray .int, 2) := by decide +kernel
theorem dX7_init_19 : decode cX7_init 19 = .ok (.putfield 21, 3) := by decide +kernel
theorem dX7_init_22 : decode cX7_init 22 = .ok (.aload_n 0, 1) := by decide +kernel
theorem dX7_init_23 : decode cX7_init 23 = .ok (.aload_n 0, 1) := by decide +kernel
theorem dX7_init_24 : decode cX7_init 24 = .ok (.getfield 17, 3) := by decide +kernel
theorem dX7_init_27 : decode cX7_init 27 = .ok (.putfield 24, 3) := by decide +kernel
theorem dX7_init_30 : decode cX7_init 30 = .ok (.aload_n 0, 1) := by decide +kernel
theorem dX7_init_31 : decode cX7_init 31 = .ok (.sipush 467, 3) := by decide +kernel
theorem dX7_init_34 : decode cX7_init 34 = .ok (.newarray .int, 2) := by decide +kernel
theorem dX7_init_36 : decode cX7_init 36 = .ok (.putfield 27, 3) := by decide +kernel
theorem dX7_init_39 : decode cX7_init 39 = .ok (.aload_n 0, 1) := by decide +kernel
theorem dX7_init_40 : decode cX7_init 40 = .ok (.sipush 500, 3) := by decide +kernel
theorem dX7_init_43 : decode cX7_init 43 = .ok (.newarray .byte, 2) := by decide +kernel
theorem dX7_init_45 : decode cX7_init 45 = .ok (.putfield 30, 3) := by decide +kernel
theorem dX7_init_48 : decode cX7_init 48 = .ok (.aload_n 0, 1) := by decide +kernel
theorem dX7_init_49 : decode cX7_init 49 = .ok (.iconst (-1), 1) := by decide +kernel
theorem dX7_init_50 : decode cX7_init 50 = .ok (.putfield 34, 3) := by decide +kernel
theorem dX7_init_53 : decode cX7_init 53 = .ok (.aload_n 0, 1) := by decide +kernel
theorem dX7_init_54 : decode cX7_init 54 = .ok (.iconst 5, 1) := by decide +kernel
theorem dX7_init_55 : decode cX7_init 55 = .ok (.newarray .boolean, 2) := by decide +kernel
theorem dX7_init_57 : decode cX7_init 57 = .ok (.putfield 37, 3) := by decide +kernel
theorem dX7_init_60 : decode cX7_init 60 = .ok (.aload_n 0, 1) := by decide +kernel
theorem dX7_init_61 : decode cX7_init 61 = .ok (.sipush 934, 3) := by decide +kernel
theorem dX7_init_64 : decode cX7_init 64 = .ok (.newarray .int, 2) := by decide +kernel
theorem dX7_init_66 : decode cX7_init 66 = .ok (.putfield 41, 3) := by decide +kernel
theorem dX7_init_69 : decode cX7_init 69 = .ok (.aload_n 0, 1) := by decide +kernel
theorem dX7_init_70 : decode cX7_init 70 = .ok (.iconst 2, 1) := by decide +kernel
theorem dX7_init_71 : decode cX7_init 71 = .ok (.newarray .boolean, 2) := by decide +kernel
theorem dX7_init_73 : decode cX7_init 73 = .ok (.putfield 44, 3) := by decide +kernel
theorem dX7_init_76 : decode cX7_init 76 = .ok (.aload_n 0, 1) := by decide +kernel
theorem dX7_init_77 : decode cX7_init 77 = .ok (.sipush 2802, 3) := by decide +kernel
theorem dX7_init_80 : decode cX7_init 80 = .ok (.newarray .int, 2) := by decide +kernel
theorem dX7_init_82 : decode cX7_init 82 = .ok (.putfield 47, 3) := by decide +kernel
theorem dX7_init_85 : decode cX7_init 85 = .ok (.aload_n 0, 1) := by decide +kernel
theorem dX7_init_86 : decode cX7_init 86 = .ok (.sipush 500, 3) := by decide +kernel
theorem dX7_init_89 : decode cX7_init 89 = .ok (.newarray .byte, 2) := by decide +kernel
theorem dX7_init_91 : decode cX7_init 91 = .ok (.putfield 50, 3) := by decide +kernel
theorem dX7_init_94 : decode cX7_init 94 = .ok (.aload_n 0, 1) := by decide +kernel
theorem dX7_init_95 : decode cX7_init 95 = .ok (.invokevirtual 53, 3) := by decide +kernel
theorem dX7_init_98 : decode cX7_init 98 = .ok (.return_, 1) := by decide +kernel
theorem dX7_layPlain_0 : decode cX7_layPlain 0 = .ok (.iconst 0, 1) := by decide +kernel
theorem dX7_layPlain_1 : decode cX7_layPlain 1 = .ok (.istore_n 1, 1) := by decide +kernel
theorem dX7_layPlain_2 : decode cX7_layPlain 2 = .ok (.iload_n 1, 1) := by decide +kernel
theorem dX7_layPlain_3 : decode cX7_layPlain 3 = .ok (.sipush 467, 3) := by decide +kernel
theorem dX7_layPlain_6 : decode cX7_layPlain 6 = .ok (.if_icmp .ge 16, 3) := by decide +kernel
theorem dX7_layPlain_9 : decode cX7_layPlain 9 = .ok (.aload_n 0, 1) := by decide +kernel
theorem dX7_layPlain_10 : decode cX7_layPlain 10 = .ok (.getfield 24, 3) := by decide +kernel
theorem dX7_layPlain_13 : decode cX7_layPlain 13 = .ok (.iload_n 1, 1) := by decide +kernel
theorem dX7_layPlain_14 : decode cX7_layPlain 14 = .ok (.iconst 0, 1) := by decide +kernel
theorem dX7_layPlain_15 : decode cX7_layPlain 15 = .ok (.iastore, 1) := by decide +kernel
theorem dX7_layPlain_16 : decode cX7_layPlain 16 = .ok (.iinc 1 1, 3) := by decide +kernel
theorem dX7_layPlain_19 : decode cX7_layPlain 19 = .ok (.goto (-17), 3) := by decide +kernel
theorem dX7_layPlain_22 : decode cX7_layPlain 22 = .ok (.aload_n 0, 1) := by decide +kernel
theorem dX7_layPlain_23 : decode cX7_layPlain 23 = .ok (.getfield 24, 3) := by decide +kernel
theorem dX7_layPlain_26 : decode cX7_layPlain 26 = .ok (.iconst 2, 1) := by decide +kernel
theorem dX7_layPlain_27 : decode cX7_layPlain 27 = .ok (.bipush 50, 2) := by decide +kernel
theorem dX7_layPlain_29 : decode cX7_layPlain 29 = .ok (.iastore, 1) := by decide +kernel
theorem dX7_layPlain_30 : decode cX7_layPlain 30 = .ok (.aload_n 0, 1) := by decide +kernel
theorem dX7_layPlain_31 : decode cX7_layPlain 31 = .ok (.getfield 24, 3) := by decide +kernel
theorem dX7_layPlain_34 : decode cX7_layPlain 34 = .ok (.iconst 4, 1) := by decide +kernel
theorem dX7_layPlain_35 : decode cX7_layPlain 35 = .ok (.bipush 8, 2) := by decide +kernel
theorem dX7_layPlain_37 : decode cX7_layPlain 37 = .ok (.iastore, 1) := by decide +kernel
theorem dX7_layPlain_38 : decode cX7_layPlain 38 = .ok (.aload_n 0, 1) := by decide +kernel
theorem dX7_layPlain_39 : decode cX7_layPlain 39 = .ok (.getfield 24, 3) := by decide +kernel
theorem dX7_layPlain_42 : decode cX7_layPlain 42 = .ok (.iconst 5, 1) := by decide +kernel
theorem dX7_layPlain_43 : decode cX7_layPlain 43 = .ok (.iconst 3, 1) := by decide +kernel
theorem dX7_layPlain_44 : decode cX7_layPlain 44 = .ok (.iastore, 1) := by decide +kernel
theorem dX7_layPlain_45 : decode cX7_layPlain 45 = .ok (.aload_n 0, 1) := by decide +kernel
theorem dX7_layPlain_46 : decode cX7_layPlain 46 = .ok (.getfield 24, 3) := by decide +kernel
theorem dX7_layPlain_49 : decode cX7_layPlain 49 = .ok (.bipush 6, 2) := by decide +kernel
theorem dX7_layPlain_51 : decode cX7_layPlain 51 = .ok (.bipush 30, 2) := by decide +kernel
theorem dX7_layPlain_53 : decode cX7_layPlain 53 = .ok (.iastore, 1) := by decide +kernel
theorem dX7_layPlain_54 : decode cX7_layPlain 54 = .ok (.aload_n 0, 1) := by decide +kernel
theorem dX7_layPlain_55 : decode cX7_layPlain 55 = .ok (.getfield 24, 3) := by decide +kernel
theorem dX7_layPlain_58 : decode cX7_layPlain 58 = .ok (.bipush 7, 2) := by decide +kernel
theorem dX7_layPlain_60 : decode cX7_layPlain 60 = .ok (.iconst 3, 1) := by decide +kernel
theorem dX7_layPlain_61 : decode cX7_layPlain 61 = .ok (.iastore, 1) := by decide +kernel
theorem dX7_layPlain_62 : decode cX7_layPlain 62 = .ok (.aload_n 0, 1) := by decide +kernel
theorem dX7_layPlain_63 : decode cX7_layPlain 63 = .ok (.getfield 24, 3) := by decide +kernel
theorem dX7_layPlain_66 : decode cX7_layPlain 66 = .ok (.bipush 8, 2) := by decide +kernel
theorem dX7_layPlain_68 : decode cX7_layPlain 68 = .ok (.iconst 5, 1) := by decide +kernel
theorem dX7_layPlain_69 : decode cX7_layPlain 69 = .ok (.iastore, 1) := by decide +kernel
theorem dX7_layPlain_70 : decode cX7_layPlain 70 = .ok (.aload_n 0, 1) := by decide +kernel
theorem dX7_layPlain_71 : decode cX7_layPlain 71 = .ok (.getfield 24, 3) := by decide +kernel
theorem dX7_layPlain_74 : decode cX7_layPlain 74 = .ok (.bipush 9, 2) := by decide +kernel
theorem dX7_layPlain_76 : decode cX7_layPlain 76 = .ok (.bipush 20, 2) := by decide +kernel
theorem dX7_layPlain_78 : decode cX7_layPlain 78 = .ok (.iastore, 1) := by decide +kernel
theorem dX7_layPlain_79 : decode cX7_layPlain 79 = .ok (.aload_n 0, 1) := by decide +kernel
theorem dX7_layPlain_80 : decode cX7_layPlain 80 = .ok (.getfield 24, 3) := by decide +kernel
theorem dX7_layPlain_83 : decode cX7_layPlain 83 = .ok (.bipush 10, 2) := by decide +kernel
theorem dX7_layPlain_85 : decode cX7_layPlain 85 = .ok (.bipush 100, 2) := by decide +kernel
theorem dX7_layPlain_87 : decode cX7_layPlain 87 = .ok (.iastore, 1) := by decide +kernel
theorem dX7_layPlain_88 : decode cX7_layPlain 88 = .ok (.return_, 1) := by decide +kernel
theorem dX7_rooms_0 : decode cX7_rooms 0 = .ok (.aload_n 0, 1) := by decide +kernel
theorem dX7_rooms_1 : decode cX7_rooms 1 = .ok (.getfield 24, 3) := by decide +kernel
theorem dX7_rooms_4 : decode cX7_rooms 4 = .ok (.iconst 0, 1) := by decide +kernel
theorem dX7_rooms_5 : decode cX7_rooms 5 = .ok (.iaload, 1) := by decide +kernel
theorem dX7_rooms_6 : decode cX7_rooms 6 = .ok (.ireturn, 1) := by decide +kernel
theorem dX7_isRoom_0 : decode cX7_isRoom 0 = .ok (.iload_n 1, 1) := by decide +kernel
theorem dX7_isRoom_1 : decode cX7_isRoom 1 = .ok (.i2l, 1) := by decide +kernel
theorem dX7_isRoom_2 : decode cX7_isRoom 2 = .ok (.lconst 0, 1) := by decide +kernel
theorem dX7_isRoom_3 : decode cX7_isRoom 3 = .ok (.aload_n 0, 1) := by decide +kernel
theorem dX7_isRoom_4 : decode cX7_isRoom 4 = .ok (.invokevirtual 56, 3) := by decide +kernel
theorem dX7_isRoom_7 : decode cX7_isRoom 7 = .ok (.iconst 1, 1) := by decide +kernel
theorem dX7_isRoom_8 : decode cX7_isRoom 8 = .ok (.isub, 1) := by decide +kernel
theorem dX7_isRoom_9 : decode cX7_isRoom 9 = .ok (.i2l, 1) := by decide +kernel
theorem dX7_isRoom_10 : decode cX7_isRoom 10 = .ok (.invokestatic 60, 3) := by decide +kernel
theorem dX7_isRoom_13 : decode cX7_isRoom 13 = .ok (.ireturn, 1) := by decide +kernel
theorem dX7_of_0 : decode cX7_of 0 = .ok (.aload_n 0, 1) := by decide +kernel
theorem dX7_of_1 : decode cX7_of 1 = .ok (.getfield 24, 3) := by decide +kernel
theorem dX7_of_4 : decode cX7_of 4 = .ok (.bipush 71, 2) := by decide +kernel
theorem dX7_of_6 : decode cX7_of 6 = .ok (.bipush 66, 2) := by decide +kernel
theorem dX7_of_8 : decode cX7_of 8 = .ok (.iload_n 1, 1) := by decide +kernel
theorem dX7_of_9 : decode cX7_of 9 = .ok (.imul, 1) := by decide +kernel
theorem dX7_of_10 : decode cX7_of 10 = .ok (.iadd, 1) := by decide +kernel
theorem dX7_of_11 : decode cX7_of 11 = .ok (.iload_n 2, 1) := by decide +kernel
theorem dX7_of_12 : decode cX7_of 12 = .ok (.iadd, 1) := by decide +kernel
theorem dX7_of_13 : decode cX7_of 13 = .ok (.iaload, 1) := by decide +kernel
theorem dX7_of_14 : decode cX7_of 14 = .ok (.ireturn, 1) := by decide +kernel
theorem dX7_put_0 : decode cX7_put 0 = .ok (.aload_n 0, 1) := by decide +kernel
theorem dX7_put_1 : decode cX7_put 1 = .ok (.getfield 24, 3) := by decide +kernel
theorem dX7_put_4 : decode cX7_put 4 = .ok (.bipush 71, 2) := by decide +kernel
theorem dX7_put_6 : decode cX7_put 6 = .ok (.bipush 66, 2) := by decide +kernel
theorem dX7_put_8 : decode cX7_put 8 = .ok (.iload_n 1, 1) := by decide +kernel
theorem dX7_put_9 : decode cX7_put 9 = .ok (.imul, 1) := by decide +kernel
theorem dX7_put_10 : decode cX7_put 10 = .ok (.iadd, 1) := by decide +kernel
theorem dX7_put_11 : decode cX7_put 11 = .ok (.iload_n 2, 1) := by decide +kernel
theorem dX7_put_12 : decode cX7_put 12 = .ok (.iadd, 1) := by decide +kernel
theorem dX7_put_13 : decode cX7_put 13 = .ok (.iload_n 3, 1) := by decide +kernel
theorem dX7_put_14 : decode cX7_put 14 = .ok (.iastore, 1) := by decide +kernel
theorem dX7_put_15 : decode cX7_put 15 = .ok (.return_, 1) := by decide +kernel
theorem dX7_add_0 : decode cX7_add 0 = .ok (.aload_n 0, 1) := by decide +kernel
theorem dX7_add_1 : decode cX7_add 1 = .ok (.getfield 24, 3) := by decide +kernel
theorem dX7_add_4 : decode cX7_add 4 = .ok (.bipush 71, 2) := by decide +kernel
theorem dX7_add_6 : decode cX7_add 6 = .ok (.bipush 66, 2) := by decide +kernel
theorem dX7_add_8 : decode cX7_add 8 = .ok (.iload_n 1, 1) := by decide +kernel
theorem dX7_add_9 : decode cX7_add 9 = .ok (.imul, 1) := by decide +kernel
theorem dX7_add_10 : decode cX7_add 10 = .ok (.iadd, 1) := by decide +kernel
theorem dX7_add_11 : decode cX7_add 11 = .ok (.iload_n 2, 1) := by decide +kernel
theorem dX7_add_12 : decode cX7_add 12 = .ok (.iadd, 1) := by decide +kernel
theorem dX7_add_13 : decode cX7_add 13 = .ok (.dup2, 1) := by decide +kernel
theorem dX7_add_14 : decode cX7_add 14 = .ok (.iaload, 1) := by decide +kernel
theorem dX7_add_15 : decode cX7_add 15 = .ok (.iload_n 3, 1) := by decide +kernel
theorem dX7_add_16 : decode cX7_add 16 = .ok (.iadd, 1) := by decide +kernel
theorem dX7_add_17 : decode cX7_add 17 = .ok (.iastore, 1) := by decide +kernel
theorem dX7_add_18 : decode cX7_add 18 = .ok (.return_, 1) := by decide +kernel
theorem dX7_counts_0 : decode cX7_counts 0 = .ok (.aload_n 0, 1) := by decide +kernel
theorem dX7_counts_1 : decode cX7_counts 1 = .ok (.iload_n 1, 1) := by decide +kernel
theorem dX7_counts_2 : decode cX7_counts 2 = .ok (.bipush 12, 2) := by decide +kernel
theorem dX7_counts_4 : decode cX7_counts 4 = .ok (.iload_n 2, 1) := by decide +kernel
theorem dX7_counts_5 : decode cX7_counts 5 = .ok (.iadd, 1) := by decide +kernel
theorem dX7_counts_6 : decode cX7_counts 6 = .ok (.iconst 1, 1) := by decide +kernel
theorem dX7_counts_7 : decode cX7_counts 7 = .ok (.invokevirtual 64, 3) := by decide +kernel
theorem dX7_counts_10 : decode cX7_counts 10 = .ok (.return_, 1) := by decide +kernel
theorem dX7_ofPlan_0 : decode cX7_ofPlan 0 = .ok (.aload_n 0, 1) := by decide +kernel
theorem dX7_ofPlan_1 : decode cX7_ofPlan 1 = .ok (.getfield 24, 3) := by decide +kernel
theorem dX7_ofPlan_4 : decode cX7_ofPlan 4 = .ok (.bipush 11, 2) := by decide +kernel
theorem dX7_ofPlan_6 : decode cX7_ofPlan 6 = .ok (.iconst 3, 1) := by decide +kernel
theorem dX7_ofPlan_7 : decode cX7_ofPlan 7 = .ok (.iload_n 1, 1) := by decide +kernel
theorem dX7_ofPlan_8 : decode cX7_ofPlan 8 = .ok (.imul, 1) := by decide +kernel
theorem dX7_ofPlan_9 : decode cX7_ofPlan 9 = .ok (.iadd, 1) := by decide +kernel
theorem dX7_ofPlan_10 : decode cX7_ofPlan 10 = .ok (.iload_n 2, 1) := by decide +kernel
theorem dX7_ofPlan_11 : decode cX7_ofPlan 11 = .ok (.iadd, 1) := by decide +kernel
theorem dX7_ofPlan_12 : decode cX7_ofPlan 12 = .ok (.iaload, 1) := by decide +kernel
theorem dX7_ofPlan_13 : decode cX7_ofPlan 13 = .ok (.ireturn, 1) := by decide +kernel
theorem dX7_programAt_0 : decode cX7_programAt 0 = .ok (.aload_n 0, 1) := by decide +kernel
theorem dX7_programAt_1 : decode cX7_programAt 1 = .ok (.iload_n 1, 1) := by decide +kernel
theorem dX7_programAt_2 : decode cX7_programAt 2 = .ok (.bipush 18, 2) := by decide +kernel
theorem dX7_programAt_4 : decode cX7_programAt 4 = .ok (.iload_n 2, 1) := by decide +kernel
theorem dX7_programAt_5 : decode cX7_programAt 5 = .ok (.iadd, 1) := by decide +kernel
theorem dX7_programAt_6 : decode cX7_programAt 6 = .ok (.invokevirtual 68, 3) := by decide +kernel
theorem dX7_programAt_9 : decode cX7_programAt 9 = .ok (.ireturn, 1) := by decide +kernel
theorem dX7_entries_0 : decode cX7_entries 0 = .ok (.iconst 0, 1) := by decide +kernel
theorem dX7_entries_1 : decode cX7_entries 1 = .ok (.istore_n 2, 1) := by decide +kernel
theorem dX7_entries_2 : decode cX7_entries 2 = .ok (.iconst 0, 1) := by decide +kernel
theorem dX7_entries_3 : decode cX7_entries 3 = .ok (.istore_n 3, 1) := by decide +kernel
theorem dX7_entries_4 : decode cX7_entries 4 = .ok (.iload_n 3, 1) := by decide +kernel
theorem dX7_entries_5 : decode cX7_entries 5 = .ok (.bipush 48, 2) := by decide +kernel
theorem dX7_entries_7 : decode cX7_entries 7 = .ok (.if_icmp .ge 26, 3) := by decide +kernel
theorem dX7_entries_10 : decode cX7_entries 10 = .ok (.iload_n 2, 1) := by decide +kernel
theorem dX7_entries_11 : decode cX7_entries 11 = .ok (.aload_n 0, 1) := by decide +kernel
theorem dX7_entries_12 : decode cX7_entries 12 = .ok (.iload_n 1, 1) := by decide +kernel
theorem dX7_entries_13 : decode cX7_entries 13 = .ok (.iload_n 3, 1) := by decide +kernel
theorem dX7_entries_14 : decode cX7_entries 14 = .ok (.invokevirtual 72, 3) := by decide +kernel
theorem dX7_entries_17 : decode cX7_entries 17 = .ok (.ifCond .le 7, 3) := by decide +kernel
theorem dX7_entries_20 : decode cX7_entries 20 = .ok (.iconst 1, 1) := by decide +kernel
theorem dX7_entries_21 : decode cX7_entries 21 = .ok (.goto 4, 3) := by decide +kernel
theorem dX7_entries_24 : decode cX7_entries 24 = .ok (.iconst 0, 1) := by decide +kernel
theorem dX7_entries_25 : decode cX7_entries 25 = .ok (.iadd, 1) := by decide +kernel
theorem dX7_entries_26 : decode cX7_entries 26 = .ok (.istore_n 2, 1) := by decide +kernel
theorem dX7_entries_27 : decode cX7_entries 27 = .ok (.iinc 3 1, 3) := by decide +kernel
theorem dX7_entries_30 : decode cX7_entries 30 = .ok (.goto (-26), 3) := by decide +kernel
theorem dX7_entries_33 : decode cX7_entries 33 = .ok (.iload_n 2, 1) := by decide +kernel
theorem dX7_entries_34 : decode cX7_entries 34 = .ok (.ireturn, 1) := by decide +kernel
theorem dX7_toldFor_0 : decode cX7_toldFor 0 = .ok (.iconst 0, 1) := by decide +kernel
theorem dX7_toldFor_1 : decode cX7_toldFor 1 = .ok (.istore_n 3, 1) := by decide +kernel
theorem dX7_toldFor_2 : decode cX7_toldFor 2 = .ok (.iload_n 3, 1) := by decide +kernel
theorem dX7_toldFor_3 : decode cX7_toldFor 3 = .ok (.bipush 48, 2) := by decide +kernel
theorem dX7_toldFor_5 : decode cX7_toldFor 5 = .ok (.if_icmp .ge 38, 3) := by decide +kernel
theorem dX7_toldFor_8 : decode cX7_toldFor 8 = .ok (.iload_n 2, 1) := by decide +kernel
theorem dX7_toldFor_9 : decode cX7_toldFor 9 = .ok (.iload_n 3, 1) := by decide +kernel
theorem dX7_toldFor_10 : decode cX7_toldFor 10 = .ok (.isub, 1) := by decide +kernel
theorem dX7_toldFor_11 : decode cX7_toldFor 11 = .ok (.bipush 48, 2) := by decide +kernel
theorem dX7_toldFor_13 : decode cX7_toldFor 13 = .ok (.iadd, 1) := by decide +kernel
theorem dX7_toldFor_14 : decode cX7_toldFor 14 = .ok (.bipush 48, 2) := by decide +kernel
theorem dX7_toldFor_16 : decode cX7_toldFor 16 = .ok (.irem, 1) := by decide +kernel
theorem dX7_toldFor_17 : decode cX7_toldFor 17 = .ok (.istore 4, 2) := by decide +kernel
theorem dX7_toldFor_19 : decode cX7_toldFor 19 = .ok (.aload_n 0, 1) := by decide +kernel
theorem dX7_toldFor_20 : decode cX7_toldFor 20 = .ok (.iload_n 1, 1) := by decide +kernel
theorem dX7_toldFor_21 : decode cX7_toldFor 21 = .ok (.iload 4, 2) := by decide +kernel
theorem dX7_toldFor_23 : decode cX7_toldFor 23 = .ok (.invokevirtual 72, 3) := by decide +kernel
theorem dX7_toldFor_26 : decode cX7_toldFor 26 = .ok (.ifCond .le 11, 3) := by decide +kernel
theorem dX7_toldFor_29 : decode cX7_toldFor 29 = .ok (.aload_n 0, 1) := by decide +kernel
theorem dX7_toldFor_30 : decode cX7_toldFor 30 = .ok (.iload_n 1, 1) := by decide +kernel
theorem dX7_toldFor_31 : decode cX7_toldFor 31 = .ok (.iload 4, 2) := by decide +kernel
theorem dX7_toldFor_33 : decode cX7_toldFor 33 = .ok (.invokevirtual 72, 3) := by decide +kernel
theorem dX7_toldFor_36 : decode cX7_toldFor 36 = .ok (.ireturn, 1) := by decide +kernel
theorem dX7_toldFor_37 : decode cX7_toldFor 37 = .ok (.iinc 3 1, 3) := by decide +kernel
theorem dX7_toldFor_40 : decode cX7_toldFor 40 = .ok (.goto (-38), 3) := by decide +kernel
theorem dX7_toldFor_43 : decode cX7_toldFor 43 = .ok (.sipush 200, 3) := by decide +kernel
theorem dX7_toldFor_46 : decode cX7_toldFor 46 = .ok (.ireturn, 1) := by decide +kernel
theorem dX7_targetOf_0 : decode cX7_targetOf 0 = .ok (.aload_n 0, 1) := by decide +kernel
theorem dX7_targetOf_1 : decode cX7_targetOf 1 = .ok (.iload_n 1, 1) := by decide +kernel
theorem dX7_targetOf_2 : decode cX7_targetOf 2 = .ok (.bipush 9, 2) := by decide +kernel
theorem dX7_targetOf_4 : decode cX7_targetOf 4 = .ok (.invokevirtual 68, 3) := by decide +kernel
theorem dX7_targetOf_7 : decode cX7_targetOf 7 = .ok (.ifCond .le 11, 3) := by decide +kernel
theorem dX7_targetOf_10 : decode cX7_targetOf 10 = .ok (.aload_n 0, 1) := by decide +kernel
theorem dX7_targetOf_11 : decode cX7_targetOf 11 = .ok (.iload_n 1, 1) := by decide +kernel
theorem dX7_targetOf_12 : decode cX7_targetOf 12 = .ok (.bipush 8, 2) := by decide +kernel
theorem dX7_targetOf_14 : decode cX7_targetOf 14 = .ok (.invokevirtual 68, 3) := by decide +kernel
theorem dX7_targetOf_17 : decode cX7_targetOf 17 = .ok (.ireturn, 1) := by decide +kernel
theorem dX7_targetOf_18 : decode cX7_targetOf 18 = .ok (.aload_n 0, 1) := by decide +kernel
theorem dX7_targetOf_19 : decode cX7_targetOf 19 = .ok (.iload_n 1, 1) := by decide +kernel
theorem dX7_targetOf_20 : decode cX7_targetOf 20 = .ok (.bipush 6, 2) := by decide +kernel
theorem dX7_targetOf_22 : decode cX7_targetOf 22 = .ok (.invokevirtual 68, 3) := by decide +kernel
theorem dX7_targetOf_25 : decode cX7_targetOf 25 = .ok (.iconst 1, 1) := by decide +kernel
theorem dX7_targetOf_26 : decode cX7_targetOf 26 = .ok (.if_icmp .ne 7, 3) := by decide +kernel
theorem dX7_targetOf_29 : decode cX7_targetOf 29 = .ok (.iconst 0, 1) := by decide +kernel
theorem dX7_targetOf_30 : decode cX7_targetOf 30 = .ok (.goto 10, 3) := by decide +kernel
theorem dX7_targetOf_33 : decode cX7_targetOf 33 = .ok (.aload_n 0, 1) := by decide +kernel
theorem dX7_targetOf_34 : decode cX7_targetOf 34 = .ok (.getfield 24, 3) := by decide +kernel
theorem dX7_targetOf_37 : decode cX7_targetOf 37 = .ok (.bipush 6, 2) := by decide +kernel
theorem dX7_targetOf_39 : decode cX7_targetOf 39 = .ok (.iaload, 1) := by decide +kernel
theorem dX7_targetOf_40 : decode cX7_targetOf 40 = .ok (.istore_n 2, 1) := by decide +kernel
theorem dX7_targetOf_41 : decode cX7_targetOf 41 = .ok (.aload_n 0, 1) := by decide +kernel
theorem dX7_targetOf_42 : decode cX7_targetOf 42 = .ok (.iload_n 1, 1) := by decide +kernel
theorem dX7_targetOf_43 : decode cX7_targetOf 43 = .ok (.aload_n 0, 1) := by decide +kernel
theorem dX7_targetOf_44 : decode cX7_targetOf 44 = .ok (.getfield 24, 3) := by decide +kernel
theorem dX7_targetOf_47 : decode cX7_targetOf 47 = .ok (.iconst 1, 1) := by decide +kernel
theorem dX7_targetOf_48 : decode cX7_targetOf 48 = .ok (.iaload, 1) := by decide +kernel
theorem dX7_targetOf_49 : decode cX7_targetOf 49 = .ok (.bipush 48, 2) := by decide +kernel
theorem dX7_targetOf_51 : decode cX7_targetOf 51 = .ok (.irem, 1) := by decide +kernel
theorem dX7_targetOf_52 : decode cX7_targetOf 52 = .ok (.invokevirtual 75, 3) := by decide +kernel
theorem dX7_targetOf_55 : decode cX7_targetOf 55 = .ok (.iload_n 2, 1) := by decide +kernel
theorem dX7_targetOf_56 : decode cX7_targetOf 56 = .ok (.isub, 1) := by decide +kernel
theorem dX7_targetOf_57 : decode cX7_targetOf 57 = .ok (.ireturn, 1) := by decide +kernel
theorem dX7_isInBand_0 : decode cX7_isInBand 0 = .ok (.aload_n 0, 1) := by decide +kernel
theorem dX7_isInBand_1 : decode cX7_isInBand 1 = .ok (.iload_n 1, 1) := by decide +kernel
theorem dX7_isInBand_2 : decode cX7_isInBand 2 = .ok (.invokevirtual 78, 3) := by decide +kernel
theorem dX7_isInBand_5 : decode cX7_isInBand 5 = .ok (.aload_n 0, 1) := by decide +kernel
theorem dX7_isInBand_6 : decode cX7_isInBand 6 = .ok (.iload_n 1, 1) := by decide +kernel
theorem dX7_isInBand_7 : decode cX7_isInBand 7 = .ok (.iconst 0, 1) := by decide +kernel
theorem dX7_isInBand_8 : decode cX7_isInBand 8 = .ok (.invokevirtual 68, 3) := by decide +kernel
theorem dX7_isInBand_11 : decode cX7_isInBand 11 = .ok (.isub, 1) := by decide +kernel
theorem dX7_isInBand_12 : decode cX7_isInBand 12 = .ok (.invokestatic 82, 3) := by decide +kernel
theorem dX7_isInBand_15 : decode cX7_isInBand 15 = .ok (.aload_n 0, 1) := by decide +kernel
theorem dX7_isInBand_16 : decode cX7_isInBand 16 = .ok (.getfield 24, 3) := by decide +kernel
theorem dX7_isInBand_19 : decode cX7_isInBand 19 = .ok (.bipush 7, 2) := by decide +kernel
theorem dX7_isInBand_21 : decode cX7_isInBand 21 = .ok (.iaload, 1) := by decide +kernel
theorem dX7_isInBand_22 : decode cX7_isInBand 22 = .ok (.if_icmp .gt 7, 3) := by decide +kernel
theorem dX7_isInBand_25 : decode cX7_isInBand 25 = .ok (.iconst 1, 1) := by decide +kernel
theorem dX7_isInBand_26 : decode cX7_isInBand 26 = .ok (.goto 4, 3) := by decide +kernel
theorem dX7_isInBand_29 : decode cX7_isInBand 29 = .ok (.iconst 0, 1) := by decide +kernel
theorem dX7_isInBand_30 : decode cX7_isInBand 30 = .ok (.ireturn, 1) := by decide +kernel
theorem dX7_wantedIn_0 : decode cX7_wantedIn 0 = .ok (.aload_n 0, 1) := by decide +kernel
theorem dX7_wantedIn_1 : decode cX7_wantedIn 1 = .ok (.iload_n 1, 1) := by decide +kernel
theorem dX7_wantedIn_2 : decode cX7_wantedIn 2 = .ok (.bipush 7, 2) := by decide +kernel
theorem dX7_wantedIn_4 : decode cX7_wantedIn 4 = .ok (.invokevirtual 68, 3) := by decide +kernel
theorem dX7_wantedIn_7 : decode cX7_wantedIn 7 = .ok (.ifCond .le 5, 3) := by decide +kernel
theorem dX7_wantedIn_10 : decode cX7_wantedIn 10 = .ok (.iconst 0, 1) := by decide +kernel
theorem dX7_wantedIn_11 : decode cX7_wantedIn 11 = .ok (.ireturn, 1) := by decide +kernel
theorem dX7_wantedIn_12 : decode cX7_wantedIn 12 = .ok (.aload_n 0, 1) := by decide +kernel
theorem dX7_wantedIn_13 : decode cX7_wantedIn 13 = .ok (.iload_n 1, 1) := by decide +kernel
theorem dX7_wantedIn_14 : decode cX7_wantedIn 14 = .ok (.invokevirtual 87, 3) := by decide +kernel
theorem dX7_wantedIn_17 : decode cX7_wantedIn 17 = .ok (.ifCond .eq 10, 3) := by decide +kernel
theorem dX7_wantedIn_20 : decode cX7_wantedIn 20 = .ok (.aload_n 0, 1) := by decide +kernel
theorem dX7_wantedIn_21 : decode cX7_wantedIn 21 = .ok (.iload_n 1, 1) := by decide +kernel
theorem dX7_wantedIn_22 : decode cX7_wantedIn 22 = .ok (.iconst 1, 1) := by decide +kernel
theorem dX7_wantedIn_23 : decode cX7_wantedIn 23 = .ok (.invokevirtual 68, 3) := by decide +kernel
theorem dX7_wantedIn_26 : decode cX7_wantedIn 26 = .ok (.ireturn, 1) := by decide +kernel
theorem dX7_wantedIn_27 : decode cX7_wantedIn 27 = .ok (.aload_n 0, 1) := by decide +kernel
theorem dX7_wantedIn_28 : decode cX7_wantedIn 28 = .ok (.getfield 24, 3) := by decide +kernel
theorem dX7_wantedIn_31 : decode cX7_wantedIn 31 = .ok (.bipush 8, 2) := by decide +kernel
theorem dX7_wantedIn_33 : decode cX7_wantedIn 33 = .ok (.iaload, 1) := by decide +kernel
theorem dX7_wantedIn_34 : decode cX7_wantedIn 34 = .ok (.i2l, 1) := by decide +kernel
theorem dX7_wantedIn_35 : decode cX7_wantedIn 35 = .ok (.aload_n 0, 1) := by decide +kernel
theorem dX7_wantedIn_36 : decode cX7_wantedIn 36 = .ok (.iload_n 1, 1) := by decide +kernel
theorem dX7_wantedIn_37 : decode cX7_wantedIn 37 = .ok (.invokevirtual 78, 3) := by decide +kernel
theorem dX7_wantedIn_40 : decode cX7_wantedIn 40 = .ok (.aload_n 0, 1) := by decide +kernel
theorem dX7_wantedIn_41 : decode cX7_wantedIn 41 = .ok (.iload_n 1, 1) := by decide +kernel
theorem dX7_wantedIn_42 : decode cX7_wantedIn 42 = .ok (.iconst 0, 1) := by decide +kernel
theorem dX7_wantedIn_43 : decode cX7_wantedIn 43 = .ok (.invokevirtual 68, 3) := by decide +kernel
theorem dX7_wantedIn_46 : decode cX7_wantedIn 46 = .ok (.isub, 1) := by decide +kernel
theorem dX7_wantedIn_47 : decode cX7_wantedIn 47 = .ok (.i2l, 1) := by decide +kernel
theorem dX7_wantedIn_48 : decode cX7_wantedIn 48 = .ok (.lmul, 1) := by decide +kernel
theorem dX7_wantedIn_49 : decode cX7_wantedIn 49 = .ok (.lstore_n 2, 1) := by decide +kernel
theorem dX7_wantedIn_50 : decode cX7_wantedIn 50 = .ok (.lconst 0, 1) := by decide +kernel
theorem dX7_wantedIn_51 : decode cX7_wantedIn 51 = .ok (.ldc2_w 91, 3) := by decide +kernel
theorem dX7_wantedIn_54 : decode cX7_wantedIn 54 = .ok (.lload_n 2, 1) := by decide +kernel
theorem dX7_wantedIn_55 : decode cX7_wantedIn 55 = .ok (.invokestatic 93, 3) := by decide +kernel
theorem dX7_wantedIn_58 : decode cX7_wantedIn 58 = .ok (.invokestatic 97, 3) := by decide +kernel
theorem dX7_wantedIn_61 : decode cX7_wantedIn 61 = .ok (.l2i, 1) := by decide +kernel
theorem dX7_wantedIn_62 : decode cX7_wantedIn 62 = .ok (.ireturn, 1) := by decide +kernel
theorem dX7_drive_0 : decode cX7_drive 0 = .ok (.iload_n 2, 1) := by decide +kernel
theorem dX7_drive_1 : decode cX7_drive 1 = .ok (.aload_n 0, 1) := by decide +kernel
theorem dX7_drive_2 : decode cX7_drive 2 = .ok (.iload_n 1, 1) := by decide +kernel
theorem dX7_drive_3 : decode cX7_drive 3 = .ok (.iconst 1, 1) := by decide +kernel
theorem dX7_drive_4 : decode cX7_drive 4 = .ok (.invokevirtual 68, 3) := by decide +kernel
theorem dX7_drive_7 : decode cX7_drive 7 = .ok (.isub, 1) := by decide +kernel
theorem dX7_drive_8 : decode cX7_drive 8 = .ok (.invokestatic 82, 3) := by decide +kernel
theorem dX7_drive_11 : decode cX7_drive 11 = .ok (.istore 4, 2) := by decide +kernel
theorem dX7_drive_13 : decode cX7_drive 13 = .ok (.iload 4, 2) := by decide +kernel
theorem dX7_drive_15 : decode cX7_drive 15 = .ok (.iload_n 3, 1) := by decide +kernel
theorem dX7_drive_16 : decode cX7_drive 16 = .ok (.invokestatic 100, 3) := by decide +kernel
theorem dX7_drive_19 : decode cX7_drive 19 = .ok (.aload_n 0, 1) := by decide +kernel
theorem dX7_drive_20 : decode cX7_drive 20 = .ok (.iload_n 1, 1) := by decide +kernel
theorem dX7_drive_21 : decode cX7_drive 21 = .ok (.iconst 2, 1) := by decide +kernel
theorem dX7_drive_22 : decode cX7_drive 22 = .ok (.invokevirtual 68, 3) := by decide +kernel
theorem dX7_drive_25 : decode cX7_drive 25 = .ok (.invokestatic 100, 3) := by decide +kernel
theorem dX7_drive_28 : decode cX7_drive 28 = .ok (.istore 5, 2) := by decide +kernel
theorem dX7_drive_30 : decode cX7_drive 30 = .ok (.aload_n 0, 1) := by decide +kernel
theorem dX7_drive_31 : decode cX7_drive 31 = .ok (.iload_n 1, 1) := by decide +kernel
theorem dX7_drive_32 : decode cX7_drive 32 = .ok (.iconst 1, 1) := by decide +kernel
theorem dX7_drive_33 : decode cX7_drive 33 = .ok (.iload_n 2, 1) := by decide +kernel
theorem dX7_drive_34 : decode cX7_drive 34 = .ok (.aload_n 0, 1) := by decide +kernel
theorem dX7_drive_35 : decode cX7_drive 35 = .ok (.iload_n 1, 1) := by decide +kernel
theorem dX7_drive_36 : decode cX7_drive 36 = .ok (.iconst 1, 1) := by decide +kernel
theorem dX7_drive_37 : decode cX7_drive 37 = .ok (.invokevirtual 68, 3) := by decide +kernel
theorem dX7_drive_40 : decode cX7_drive 40 = .ok (.if_icmp .ge 9, 3) := by decide +kernel
theorem dX7_drive_43 : decode cX7_drive 43 = .ok (.iload 5, 2) := by decide +kernel
theorem dX7_drive_45 : decode cX7_drive 45 = .ok (.ineg, 1) := by decide +kernel
theorem dX7_drive_46 : decode cX7_drive 46 = .ok (.goto 5, 3) := by decide +kernel
theorem dX7_drive_49 : decode cX7_drive 49 = .ok (.iload 5, 2) := by decide +kernel
theorem dX7_drive_51 : decode cX7_drive 51 = .ok (.invokevirtual 64, 3) := by decide +kernel
theorem dX7_drive_54 : decode cX7_drive 54 = .ok (.aload_n 0, 1) := by decide +kernel
theorem dX7_drive_55 : decode cX7_drive 55 = .ok (.iload_n 1, 1) := by decide +kernel
theorem dX7_drive_56 : decode cX7_drive 56 = .ok (.iconst 2, 1) := by decide +kernel
theorem dX7_drive_57 : decode cX7_drive 57 = .ok (.iload 5, 2) := by decide +kernel
theorem dX7_drive_59 : decode cX7_drive 59 = .ok (.ineg, 1) := by decide +kernel
theorem dX7_drive_60 : decode cX7_drive 60 = .ok (.invokevirtual 64, 3) := by decide +kernel
theorem dX7_drive_63 : decode cX7_drive 63 = .ok (.aload_n 0, 1) := by decide +kernel
theorem dX7_drive_64 : decode cX7_drive 64 = .ok (.iload_n 1, 1) := by decide +kernel
theorem dX7_drive_65 : decode cX7_drive 65 = .ok (.bipush 12, 2) := by decide +kernel
theorem dX7_drive_67 : decode cX7_drive 67 = .ok (.iload 5, 2) := by decide +kernel
theorem dX7_drive_69 : decode cX7_drive 69 = .ok (.invokevirtual 64, 3) := by decide +kernel
theorem dX7_drive_72 : decode cX7_drive 72 = .ok (.return_, 1) := by decide +kernel
theorem dX7_warm_0 : decode cX7_warm 0 = .ok (.aload_n 0, 1) := by decide +kernel
theorem dX7_warm_1 : decode cX7_warm 1 = .ok (.iload_n 1, 1) := by decide +kernel
theorem dX7_warm_2 : decode cX7_warm 2 = .ok (.iconst 0, 1) := by decide +kernel
theorem dX7_warm_3 : decode cX7_warm 3 = .ok (.invokevirtual 68, 3) := by decide +kernel
theorem dX7_warm_6 : decode cX7_warm 6 = .ok (.istore_n 2, 1) := by decide +kernel
theorem dX7_warm_7 : decode cX7_warm 7 = .ok (.aload_n 0, 1) := by decide +kernel
theorem dX7_warm_8 : decode cX7_warm 8 = .ok (.iload_n 1, 1) := by decide +kernel
theorem dX7_warm_9 : decode cX7_warm 9 = .ok (.iconst 4, 1) := by decide +kernel
theorem dX7_warm_10 : decode cX7_warm 10 = .ok (.invokevirtual 68, 3) := by decide +kernel
theorem dX7_warm_13 : decode cX7_warm 13 = .ok (.aload_n 0, 1) := by decide +kernel
theorem dX7_warm_14 : decode cX7_warm 14 = .ok (.iload_n 1, 1) := by decide +kernel
theorem dX7_warm_15 : decode cX7_warm 15 = .ok (.iconst 5, 1) := by decide +kernel
theorem dX7_warm_16 : decode cX7_warm 16 = .ok (.invokevirtual 68, 3) := by decide +kernel
theorem dX7_warm_19 : decode cX7_warm 19 = .ok (.iconst 1, 1) := by decide +kernel
theorem dX7_warm_20 : decode cX7_warm 20 = .ok (.if_icmp .ne 8, 3) := by decide +kernel
theorem dX7_warm_23 : decode cX7_warm 23 = .ok (.bipush 10, 2) := by decide +kernel
theorem dX7_warm_25 : decode cX7_warm 25 = .ok (.goto 4, 3) := by decide +kernel
theorem dX7_warm_28 : decode cX7_warm 28 = .ok (.iconst 0, 1) := by decide +kernel
theorem dX7_warm_29 : decode cX7_warm 29 = .ok (.iadd, 1) := by decide +kernel
theorem dX7_warm_30 : decode cX7_warm 30 = .ok (.istore_n 3, 1) := by decide +kernel
theorem dX7_warm_31 : decode cX7_warm 31 = .ok (.aload_n 0, 1) := by decide +kernel
theorem dX7_warm_32 : decode cX7_warm 32 = .ok (.iload_n 1, 1) := by decide +kernel
theorem dX7_warm_33 : decode cX7_warm 33 = .ok (.iconst 1, 1) := by decide +kernel
theorem dX7_warm_34 : decode cX7_warm 34 = .ok (.invokevirtual 68, 3) := by decide +kernel
theorem dX7_warm_37 : decode cX7_warm 37 = .ok (.aload_n 0, 1) := by decide +kernel
theorem dX7_warm_38 : decode cX7_warm 38 = .ok (.iload_n 1, 1) := by decide +kernel
theorem dX7_warm_39 : decode cX7_warm 39 = .ok (.iconst 3, 1) := by decide +kernel
theorem dX7_warm_40 : decode cX7_warm 40 = .ok (.invokevirtual 68, 3) := by decide +kernel
theorem dX7_warm_43 : decode cX7_warm 43 = .ok (.imul, 1) := by decide +kernel
theorem dX7_warm_44 : decode cX7_warm 44 = .ok (.bipush 100, 2) := by decide +kernel
theorem dX7_warm_46 : decode cX7_warm 46 = .ok (.invokestatic 102, 3) := by decide +kernel
theorem dX7_warm_49 : decode cX7_warm 49 = .ok (.istore 4, 2) := by decide +kernel
theorem dX7_warm_51 : decode cX7_warm 51 = .ok (.iload_n 3, 1) := by decide +kernel
theorem dX7_warm_52 : decode cX7_warm 52 = .ok (.iload_n 2, 1) := by decide +kernel
theorem dX7_warm_53 : decode cX7_warm 53 = .ok (.aload_n 0, 1) := by decide +kernel
theorem dX7_warm_54 : decode cX7_warm 54 = .ok (.getfield 24, 3) := by decide +kernel
theorem dX7_warm_57 : decode cX7_warm 57 = .ok (.iconst 2, 1) := by decide +kernel
theorem dX7_warm_58 : decode cX7_warm 58 = .ok (.iaload, 1) := by decide +kernel
theorem dX7_warm_59 : decode cX7_warm 59 = .ok (.isub, 1) := by decide +kernel
theorem dX7_warm_60 : decode cX7_warm 60 = .ok (.imul, 1) := by decide +kernel
theorem dX7_warm_61 : decode cX7_warm 61 = .ok (.bipush 100, 2) := by decide +kernel
theorem dX7_warm_63 : decode cX7_warm 63 = .ok (.invokestatic 102, 3) := by decide +kernel
theorem dX7_warm_66 : decode cX7_warm 66 = .ok (.istore 5, 2) := by decide +kernel
theorem dX7_warm_68 : decode cX7_warm 68 = .ok (.aload_n 0, 1) := by decide +kernel
theorem dX7_warm_69 : decode cX7_warm 69 = .ok (.iload_n 1, 1) := by decide +kernel
theorem dX7_warm_70 : decode cX7_warm 70 = .ok (.iconst 0, 1) := by decide +kernel
theorem dX7_warm_71 : decode cX7_warm 71 = .ok (.iload_n 2, 1) := by decide +kernel
theorem dX7_warm_72 : decode cX7_warm 72 = .ok (.iload 4, 2) := by decide +kernel
theorem dX7_warm_74 : decode cX7_warm 74 = .ok (.iadd, 1) := by decide +kernel
theorem dX7_warm_75 : decode cX7_warm 75 = .ok (.iload 5, 2) := by decide +kernel
theorem dX7_warm_77 : decode cX7_warm 77 = .ok (.isub, 1) := by decide +kernel
theorem dX7_warm_78 : decode cX7_warm 78 = .ok (.invokevirtual 105, 3) := by decide +kernel
theorem dX7_warm_81 : decode cX7_warm 81 = .ok (.iload_n 2, 1) := by decide +kernel
theorem dX7_warm_82 : decode cX7_warm 82 = .ok (.aload_n 0, 1) := by decide +kernel
theorem dX7_warm_83 : decode cX7_warm 83 = .ok (.iload_n 1, 1) := by decide +kernel
theorem dX7_warm_84 : decode cX7_warm 84 = .ok (.iconst 0, 1) := by decide +kernel
theorem dX7_warm_85 : decode cX7_warm 85 = .ok (.invokevirtual 68, 3) := by decide +kernel
theorem dX7_warm_88 : decode cX7_warm 88 = .ok (.isub, 1) := by decide +kernel
theorem dX7_warm_89 : decode cX7_warm 89 = .ok (.aload_n 0, 1) := by decide +kernel
theorem dX7_warm_90 : decode cX7_warm 90 = .ok (.getfield 24, 3) := by decide +kernel
theorem dX7_warm_93 : decode cX7_warm 93 = .ok (.iconst 4, 1) := by decide +kernel
theorem dX7_warm_94 : decode cX7_warm 94 = .ok (.iaload, 1) := by decide +kernel
theorem dX7_warm_95 : decode cX7_warm 95 = .ok (.if_icmp .lt 25, 3) := by decide +kernel
theorem dX7_warm_98 : decode cX7_warm 98 = .ok (.aload_n 0, 1) := by decide +kernel
theorem dX7_warm_99 : decode cX7_warm 99 = .ok (.iload_n 1, 1) := by decide +kernel
theorem dX7_warm_100 : decode cX7_warm 100 = .ok (.bipush 7, 2) := by decide +kernel
theorem dX7_warm_102 : decode cX7_warm 102 = .ok (.aload_n 0, 1) := by decide +kernel
theorem dX7_warm_103 : decode cX7_warm 103 = .ok (.getfield 24, 3) := by decide +kernel
theorem dX7_warm_106 : decode cX7_warm 106 = .ok (.iconst 5, 1) := by decide +kernel
theorem dX7_warm_107 : decode cX7_warm 107 = .ok (.iaload, 1) := by decide +kernel
theorem dX7_warm_108 : decode cX7_warm 108 = .ok (.invokevirtual 105, 3) := by decide +kernel
theorem dX7_warm_111 : decode cX7_warm 111 = .ok (.aload_n 0, 1) := by decide +kernel
theorem dX7_warm_112 : decode cX7_warm 112 = .ok (.iload_n 1, 1) := by decide +kernel
theorem dX7_warm_113 : decode cX7_warm 113 = .ok (.iconst 1, 1) := by decide +kernel
theorem dX7_warm_114 : decode cX7_warm 114 = .ok (.invokevirtual 108, 3) := by decide +kernel
theorem dX7_warm_117 : decode cX7_warm 117 = .ok (.goto 21, 3) := by decide +kernel
theorem dX7_warm_120 : decode cX7_warm 120 = .ok (.aload_n 0, 1) := by decide +kernel
theorem dX7_warm_121 : decode cX7_warm 121 = .ok (.iload_n 1, 1) := by decide +kernel
theorem dX7_warm_122 : decode cX7_warm 122 = .ok (.bipush 7, 2) := by decide +kernel
theorem dX7_warm_124 : decode cX7_warm 124 = .ok (.invokevirtual 68, 3) := by decide +kernel
theorem dX7_warm_127 : decode cX7_warm 127 = .ok (.ifCond .le 11, 3) := by decide +kernel
theorem dX7_warm_130 : decode cX7_warm 130 = .ok (.aload_n 0, 1) := by decide +kernel
theorem dX7_warm_131 : decode cX7_warm 131 = .ok (.iload_n 1, 1) := by decide +kernel
theorem dX7_warm_132 : decode cX7_warm 132 = .ok (.bipush 7, 2) := by decide +kernel
theorem dX7_warm_134 : decode cX7_warm 134 = .ok (.iconst (-1), 1) := by decide +kernel
theorem dX7_warm_135 : decode cX7_warm 135 = .ok (.invokevirtual 64, 3) := by decide +kernel
theorem dX7_warm_138 : decode cX7_warm 138 = .ok (.return_, 1) := by decide +kernel
theorem dX7_isExercise_0 : decode cX7_isExercise 0 = .ok (.iload_n 2, 1) := by decide +kernel
theorem dX7_isExercise_1 : decode cX7_isExercise 1 = .ok (.iload_n 1, 1) := by decide +kernel
theorem dX7_isExercise_2 : decode cX7_isExercise 2 = .ok (.isub, 1) := by decide +kernel
theorem dX7_isExercise_3 : decode cX7_isExercise 3 = .ok (.sipush 336, 3) := by decide +kernel
theorem dX7_isExercise_6 : decode cX7_isExercise 6 = .ok (.invokestatic 112, 3) := by decide +kernel
theorem dX7_isExercise_9 : decode cX7_isExercise 9 = .ok (.aload_n 0, 1) := by decide +kernel
theorem dX7_isExercise_10 : decode cX7_isExercise 10 = .ok (.getfield 24, 3) := by decide +kernel
theorem dX7_isExercise_13 : decode cX7_isExercise 13 = .ok (.bipush 10, 2) := by decide +kernel
theorem dX7_isExercise_15 : decode cX7_isExercise 15 = .ok (.iaload, 1) := by decide +kernel
theorem dX7_isExercise_16 : decode cX7_isExercise 16 = .ok (.if_icmp .ne 7, 3) := by decide +kernel
theorem dX7_isExercise_19 : decode cX7_isExercise 19 = .ok (.iconst 1, 1) := by decide +kernel
theorem dX7_isExercise_20 : decode cX7_isExercise 20 = .ok (.goto 4, 3) := by decide +kernel
theorem dX7_isExercise_23 : decode cX7_isExercise 23 = .ok (.iconst 0, 1) := by decide +kernel
theorem dX7_isExercise_24 : decode cX7_isExercise 24 = .ok (.ireturn, 1) := by decide +kernel
theorem dX7_exercise_0 : decode cX7_exercise 0 = .ok (.aload_n 0, 1) := by decide +kernel
theorem dX7_exercise_1 : decode cX7_exercise 1 = .ok (.iload_n 1, 1) := by decide +kernel
theorem dX7_exercise_2 : decode cX7_exercise 2 = .ok (.iconst 1, 1) := by decide +kernel
theorem dX7_exercise_3 : decode cX7_exercise 3 = .ok (.invokevirtual 68, 3) := by decide +kernel
theorem dX7_exercise_6 : decode cX7_exercise 6 = .ok (.istore_n 2, 1) := by decide +kernel
theorem dX7_exercise_7 : decode cX7_exercise 7 = .ok (.aload_n 0, 1) := by decide +kernel
theorem dX7_exercise_8 : decode cX7_exercise 8 = .ok (.iload_n 1, 1) := by decide +kernel
theorem dX7_exercise_9 : decode cX7_exercise 9 = .ok (.bipush 100, 2) := by decide +kernel
theorem dX7_exercise_11 : decode cX7_exercise 11 = .ok (.bipush 100, 2) := by decide +kernel
theorem dX7_exercise_13 : decode cX7_exercise 13 = .ok (.invokevirtual 115, 3) := by decide +kernel
theorem dX7_exercise_16 : decode cX7_exercise 16 = .ok (.aload_n 0, 1) := by decide +kernel
theorem dX7_exercise_17 : decode cX7_exercise 17 = .ok (.iload_n 1, 1) := by decide +kernel
theorem dX7_exercise_18 : decode cX7_exercise 18 = .ok (.iconst 0, 1) := by decide +kernel
theorem dX7_exercise_19 : decode cX7_exercise 19 = .ok (.bipush 100, 2) := by decide +kernel
theorem dX7_exercise_21 : decode cX7_exercise 21 = .ok (.invokevirtual 115, 3) := by decide +kernel
theorem dX7_exercise_24 : decode cX7_exercise 24 = .ok (.aload_n 0, 1) := by decide +kernel
theorem dX7_exercise_25 : decode cX7_exercise 25 = .ok (.iload_n 1, 1) := by decide +kernel
theorem dX7_exercise_26 : decode cX7_exercise 26 = .ok (.iload_n 2, 1) := by decide +kernel
theorem dX7_exercise_27 : decode cX7_exercise 27 = .ok (.bipush 100, 2) := by decide +kernel
theorem dX7_exercise_29 : decode cX7_exercise 29 = .ok (.invokevirtual 115, 3) := by decide +kernel
theorem dX7_exercise_32 : decode cX7_exercise 32 = .ok (.aload_n 0, 1) := by decide +kernel
theorem dX7_exercise_33 : decode cX7_exercise 33 = .ok (.iload_n 1, 1) := by decide +kernel
theorem dX7_exercise_34 : decode cX7_exercise 34 = .ok (.iconst 2, 1) := by decide +kernel
theorem dX7_exercise_35 : decode cX7_exercise 35 = .ok (.invokevirtual 108, 3) := by decide +kernel
theorem dX7_exercise_38 : decode cX7_exercise 38 = .ok (.return_, 1) := by decide +kernel
theorem dX7_goOn_0 : decode cX7_goOn 0 = .ok (.aload_n 0, 1) := by decide +kernel
theorem dX7_goOn_1 : decode cX7_goOn 1 = .ok (.iload_n 1, 1) := by decide +kernel
theorem dX7_goOn_2 : decode cX7_goOn 2 = .ok (.invokevirtual 118, 3) := by decide +kernel
theorem dX7_goOn_5 : decode cX7_goOn 5 = .ok (.aload_n 0, 1) := by decide +kernel
theorem dX7_goOn_6 : decode cX7_goOn 6 = .ok (.iload_n 1, 1) := by decide +kernel
theorem dX7_goOn_7 : decode cX7_goOn 7 = .ok (.bipush 9, 2) := by decide +kernel
theorem dX7_goOn_9 : decode cX7_goOn 9 = .ok (.invokevirtual 68, 3) := by decide +kernel
theorem dX7_goOn_12 : decode cX7_goOn 12 = .ok (.ifCond .le 11, 3) := by decide +kernel
theorem dX7_goOn_15 : decode cX7_goOn 15 = .ok (.aload_n 0, 1) := by decide +kernel
theorem dX7_goOn_16 : decode cX7_goOn 16 = .ok (.iload_n 1, 1) := by decide +kernel
theorem dX7_goOn_17 : decode cX7_goOn 17 = .ok (.bipush 9, 2) := by decide +kernel
theorem dX7_goOn_19 : decode cX7_goOn 19 = .ok (.iconst (-1), 1) := by decide +kernel
theorem dX7_goOn_20 : decode cX7_goOn 20 = .ok (.invokevirtual 64, 3) := by decide +kernel
theorem dX7_goOn_23 : decode cX7_goOn 23 = .ok (.aload_n 0, 1) := by decide +kernel
theorem dX7_goOn_24 : decode cX7_goOn 24 = .ok (.iload_n 1, 1) := by decide +kernel
theorem dX7_goOn_25 : decode cX7_goOn 25 = .ok (.aload_n 0, 1) := by decide +kernel
theorem dX7_goOn_26 : decode cX7_goOn 26 = .ok (.getfield 24, 3) := by decide +kernel
theorem dX7_goOn_29 : decode cX7_goOn 29 = .ok (.iconst 1, 1) := by decide +kernel
theorem dX7_goOn_30 : decode cX7_goOn 30 = .ok (.iaload, 1) := by decide +kernel
theorem dX7_goOn_31 : decode cX7_goOn 31 = .ok (.invokevirtual 122, 3) := by decide +kernel
theorem dX7_goOn_34 : decode cX7_goOn 34 = .ok (.ifCond .eq 8, 3) := by decide +kernel
theorem dX7_goOn_37 : decode cX7_goOn 37 = .ok (.aload_n 0, 1) := by decide +kernel
theorem dX7_goOn_38 : decode cX7_goOn 38 = .ok (.iload_n 1, 1) := by decide +kernel
theorem dX7_goOn_39 : decode cX7_goOn 39 = .ok (.invokevirtual 126, 3) := by decide +kernel
theorem dX7_goOn_42 : decode cX7_goOn 42 = .ok (.aload_n 0, 1) := by decide +kernel
theorem dX7_goOn_43 : decode cX7_goOn 43 = .ok (.iload_n 1, 1) := by decide +kernel
theorem dX7_goOn_44 : decode cX7_goOn 44 = .ok (.invokevirtual 129, 3) := by decide +kernel
theorem dX7_goOn_47 : decode cX7_goOn 47 = .ok (.istore_n 2, 1) := by decide +kernel
theorem dX7_goOn_48 : decode cX7_goOn 48 = .ok (.aload_n 0, 1) := by decide +kernel
theorem dX7_goOn_49 : decode cX7_goOn 49 = .ok (.iload_n 1, 1) := by decide +kernel
theorem dX7_goOn_50 : decode cX7_goOn 50 = .ok (.iload_n 2, 1) := by decide +kernel
theorem dX7_goOn_51 : decode cX7_goOn 51 = .ok (.aload_n 0, 1) := by decide +kernel
theorem dX7_goOn_52 : decode cX7_goOn 52 = .ok (.getfield 24, 3) := by decide +kernel
theorem dX7_goOn_55 : decode cX7_goOn 55 = .ok (.bipush 9, 2) := by decide +kernel
theorem dX7_goOn_57 : decode cX7_goOn 57 = .ok (.iaload, 1) := by decide +kernel
theorem dX7_goOn_58 : decode cX7_goOn 58 = .ok (.invokevirtual 115, 3) := by decide +kernel
theorem dX7_goOn_61 : decode cX7_goOn 61 = .ok (.aload_n 0, 1) := by decide +kernel
theorem dX7_goOn_62 : decode cX7_goOn 62 = .ok (.iload_n 1, 1) := by decide +kernel
theorem dX7_goOn_63 : decode cX7_goOn 63 = .ok (.bipush 16, 2) := by decide +kernel
theorem dX7_goOn_65 : decode cX7_goOn 65 = .ok (.aload_n 0, 1) := by decide +kernel
theorem dX7_goOn_66 : decode cX7_goOn 66 = .ok (.iload_n 1, 1) := by decide +kernel
theorem dX7_goOn_67 : decode cX7_goOn 67 = .ok (.iconst 1, 1) := by decide +kernel
theorem dX7_goOn_68 : decode cX7_goOn 68 = .ok (.invokevirtual 68, 3) := by decide +kernel
theorem dX7_goOn_71 : decode cX7_goOn 71 = .ok (.iload_n 2, 1) := by decide +kernel
theorem dX7_goOn_72 : decode cX7_goOn 72 = .ok (.if_icmp .ne 7, 3) := by decide +kernel
theorem dX7_goOn_75 : decode cX7_goOn 75 = .ok (.iconst 0, 1) := by decide +kernel
theorem dX7_goOn_76 : decode cX7_goOn 76 = .ok (.goto 4, 3) := by decide +kernel
theorem dX7_goOn_79 : decode cX7_goOn 79 = .ok (.iconst 1, 1) := by decide +kernel
theorem dX7_goOn_80 : decode cX7_goOn 80 = .ok (.invokevirtual 64, 3) := by decide +kernel
theorem dX7_goOn_83 : decode cX7_goOn 83 = .ok (.aload_n 0, 1) := by decide +kernel
theorem dX7_goOn_84 : decode cX7_goOn 84 = .ok (.iload_n 1, 1) := by decide +kernel
theorem dX7_goOn_85 : decode cX7_goOn 85 = .ok (.bipush 17, 2) := by decide +kernel
theorem dX7_goOn_87 : decode cX7_goOn 87 = .ok (.aload_n 0, 1) := by decide +kernel
theorem dX7_goOn_88 : decode cX7_goOn 88 = .ok (.iload_n 1, 1) := by decide +kernel
theorem dX7_goOn_89 : decode cX7_goOn 89 = .ok (.iconst 2, 1) := by decide +kernel
theorem dX7_goOn_90 : decode cX7_goOn 90 = .ok (.invokevirtual 68, 3) := by decide +kernel
theorem dX7_goOn_93 : decode cX7_goOn 93 = .ok (.ifCond .ne 7, 3) := by decide +kernel
theorem dX7_goOn_96 : decode cX7_goOn 96 = .ok (.iconst 1, 1) := by decide +kernel
theorem dX7_goOn_97 : decode cX7_goOn 97 = .ok (.goto 4, 3) := by decide +kernel
theorem dX7_goOn_100 : decode cX7_goOn 100 = .ok (.iconst 0, 1) := by decide +kernel
theorem dX7_goOn_101 : decode cX7_goOn 101 = .ok (.invokevirtual 64, 3) := by decide +kernel
theorem dX7_goOn_104 : decode cX7_goOn 104 = .ok (.aload_n 0, 1) := by decide +kernel
theorem dX7_goOn_105 : decode cX7_goOn 105 = .ok (.iload_n 1, 1) := by decide +kernel
theorem dX7_goOn_106 : decode cX7_goOn 106 = .ok (.bipush 10, 2) := by decide +kernel
theorem dX7_goOn_108 : decode cX7_goOn 108 = .ok (.aload_n 0, 1) := by decide +kernel
theorem dX7_goOn_109 : decode cX7_goOn 109 = .ok (.iload_n 1, 1) := by decide +kernel
theorem dX7_goOn_110 : decode cX7_goOn 110 = .ok (.iconst 1, 1) := by decide +kernel
theorem dX7_goOn_111 : decode cX7_goOn 111 = .ok (.invokevirtual 68, 3) := by decide +kernel
theorem dX7_goOn_114 : decode cX7_goOn 114 = .ok (.invokevirtual 64, 3) := by decide +kernel
theorem dX7_goOn_117 : decode cX7_goOn 117 = .ok (.return_, 1) := by decide +kernel
theorem dX7_dropFirstPlans_0 : decode cX7_dropFirstPlans 0 = .ok (.iload_n 1, 1) := by decide +kernel
theorem dX7_dropFirstPlans_1 : decode cX7_dropFirstPlans 1 = .ok (.istore_n 3, 1) := by decide +kernel
theorem dX7_dropFirstPlans_2 : decode cX7_dropFirstPlans 2 = .ok (.iload_n 3, 1) := by decide +kernel
theorem dX7_dropFirstPlans_3 : decode cX7_dropFirstPlans 3 = .ok (.iload_n 2, 1) := by decide +kernel
theorem dX7_dropFirstPlans_4 : decode cX7_dropFirstPlans 4 = .ok (.iadd, 1) := by decide +kernel
theorem dX7_dropFirstPlans_5 : decode cX7_dropFirstPlans 5 = .ok (.aload_n 0, 1) := by decide +kernel
theorem dX7_dropFirstPlans_6 : decode cX7_dropFirstPlans 6 = .ok (.getfield 24, 3) := by decide +kernel
theorem dX7_dropFirstPlans_9 : decode cX7_dropFirstPlans 9 = .ok (.iconst 3, 1) := by decide +kernel
theorem dX7_dropFirstPlans_10 : decode cX7_dropFirstPlans 10 = .ok (.iaload, 1) := by decide +kernel
theorem dX7_dropFirstPlans_11 : decode cX7_dropFirstPlans 11 = .ok (.if_icmp .ge 54, 3) := by decide +kernel
theorem dX7_dropFirstPlans_14 : decode cX7_dropFirstPlans 14 = .ok (.iconst 0, 1) := by decide +kernel
theorem dX7_dropFirstPlans_15 : decode cX7_dropFirstPlans 15 = .ok (.istore 4, 2) := by decide +kernel
theorem dX7_dropFirstPlans_17 : decode cX7_dropFirstPlans 17 = .ok (.iload 4, 2) := by decide +kernel
theorem dX7_dropFirstPlans_19 : decode cX7_dropFirstPlans 19 = .ok (.iconst 3, 1) := by decide +kernel
theorem dX7_dropFirstPlans_20 : decode cX7_dropFirstPlans 20 = .ok (.if_icmp .ge 39, 3) := by decide +kernel
theorem dX7_dropFirstPlans_23 : decode cX7_dropFirstPlans 23 = .ok (.aload_n 0, 1) := by decide +kernel
theorem dX7_dropFirstPlans_24 : decode cX7_dropFirstPlans 24 = .ok (.getfield 24, 3) := by decide +kernel
theorem dX7_dropFirstPlans_27 : decode cX7_dropFirstPlans 27 = .ok (.bipush 11, 2) := by decide +kernel
theorem dX7_dropFirstPlans_29 : decode cX7_dropFirstPlans 29 = .ok (.iconst 3, 1) := by decide +kernel
theorem dX7_dropFirstPlans_30 : decode cX7_dropFirstPlans 30 = .ok (.iload_n 3, 1) := by decide +kernel
theorem dX7_dropFirstPlans_31 : decode cX7_dropFirstPlans 31 = .ok (.imul, 1) := by decide +kernel
theorem dX7_dropFirstPlans_32 : decode cX7_dropFirstPlans 32 = .ok (.iadd, 1) := by decide +kernel
theorem dX7_dropFirstPlans_33 : decode cX7_dropFirstPlans 33 = .ok (.iload 4, 2) := by decide +kernel
theorem dX7_dropFirstPlans_35 : decode cX7_dropFirstPlans 35 = .ok (.iadd, 1) := by decide +kernel
theorem dX7_dropFirstPlans_36 : decode cX7_dropFirstPlans 36 = .ok (.aload_n 0, 1) := by decide +kernel
theorem dX7_dropFirstPlans_37 : decode cX7_dropFirstPlans 37 = .ok (.getfield 24, 3) := by decide +kernel
theorem dX7_dropFirstPlans_40 : decode cX7_dropFirstPlans 40 = .ok (.bipush 11, 2) := by decide +kernel
theorem dX7_dropFirstPlans_42 : decode cX7_dropFirstPlans 42 = .ok (.iconst 3, 1) := by decide +kernel
theorem dX7_dropFirstPlans_43 : decode cX7_dropFirstPlans 43 = .ok (.iload_n 3, 1) := by decide +kernel
theorem dX7_dropFirstPlans_44 : decode cX7_dropFirstPlans 44 = .ok (.iload_n 2, 1) := by decide +kernel
theorem dX7_dropFirstPlans_45 : decode cX7_dropFirstPlans 45 = .ok (.iadd, 1) := by decide +kernel
theorem dX7_dropFirstPlans_46 : decode cX7_dropFirstPlans 46 = .ok (.imul, 1) := by decide +kernel
theorem dX7_dropFirstPlans_47 : decode cX7_dropFirstPlans 47 = .ok (.iadd, 1) := by decide +kernel
theorem dX7_dropFirstPlans_48 : decode cX7_dropFirstPlans 48 = .ok (.iload 4, 2) := by decide +kernel
theorem dX7_dropFirstPlans_50 : decode cX7_dropFirstPlans 50 = .ok (.iadd, 1) := by decide +kernel
theorem dX7_dropFirstPlans_51 : decode cX7_dropFirstPlans 51 = .ok (.iaload, 1) := by decide +kernel
theorem dX7_dropFirstPlans_52 : decode cX7_dropFirstPlans 52 = .ok (.iastore, 1) := by decide +kernel
theorem dX7_dropFirstPlans_53 : decode cX7_dropFirstPlans 53 = .ok (.iinc 4 1, 3) := by decide +kernel
theorem dX7_dropFirstPlans_56 : decode cX7_dropFirstPlans 56 = .ok (.goto (-39), 3) := by decide +kernel
theorem dX7_dropFirstPlans_59 : decode cX7_dropFirstPlans 59 = .ok (.iinc 3 1, 3) := by decide +kernel
theorem dX7_dropFirstPlans_62 : decode cX7_dropFirstPlans 62 = .ok (.goto (-60), 3) := by decide +kernel
theorem dX7_dropFirstPlans_65 : decode cX7_dropFirstPlans 65 = .ok (.aload_n 0, 1) := by decide +kernel
theorem dX7_dropFirstPlans_66 : decode cX7_dropFirstPlans 66 = .ok (.getfield 24, 3) := by decide +kernel
theorem dX7_dropFirstPlans_69 : decode cX7_dropFirstPlans 69 = .ok (.iconst 3, 1) := by decide +kernel
theorem dX7_dropFirstPlans_70 : decode cX7_dropFirstPlans 70 = .ok (.dup2, 1) := by decide +kernel
theorem dX7_dropFirstPlans_71 : decode cX7_dropFirstPlans 71 = .ok (.iaload, 1) := by decide +kernel
theorem dX7_dropFirstPlans_72 : decode cX7_dropFirstPlans 72 = .ok (.iload_n 2, 1) := by decide +kernel
theorem dX7_dropFirstPlans_73 : decode cX7_dropFirstPlans 73 = .ok (.isub, 1) := by decide +kernel
theorem dX7_dropFirstPlans_74 : decode cX7_dropFirstPlans 74 = .ok (.iastore, 1) := by decide +kernel
theorem dX7_dropFirstPlans_75 : decode cX7_dropFirstPlans 75 = .ok (.return_, 1) := by decide +kernel
theorem dX7_carryOut_0 : decode cX7_carryOut 0 = .ok (.iload_n 2, 1) := by decide +kernel
theorem dX7_carryOut_1 : decode cX7_carryOut 1 = .ok (.ifCond .eq 8, 3) := by decide +kernel
theorem dX7_carryOut_4 : decode cX7_carryOut 4 = .ok (.iload_n 2, 1) := by decide +kernel
theorem dX7_carryOut_5 : decode cX7_carryOut 5 = .ok (.iconst 1, 1) := by decide +kernel
theorem dX7_carryOut_6 : decode cX7_carryOut 6 = .ok (.if_icmp .ne 21, 3) := by decide +kernel
theorem dX7_carryOut_9 : decode cX7_carryOut 9 = .ok (.aload_n 0, 1) := by decide +kernel
theorem dX7_carryOut_10 : decode cX7_carryOut 10 = .ok (.iload_n 1, 1) := by decide +kernel
theorem dX7_carryOut_11 : decode cX7_carryOut 11 = .ok (.iconst 5, 1) := by decide +kernel
theorem dX7_carryOut_12 : decode cX7_carryOut 12 = .ok (.iload_n 2, 1) := by decide +kernel
theorem dX7_carryOut_13 : decode cX7_carryOut 13 = .ok (.ifCond .ne 7, 3) := by decide +kernel
theorem dX7_carryOut_16 : decode cX7_carryOut 16 = .ok (.iconst 1, 1) := by decide +kernel
theorem dX7_carryOut_17 : decode cX7_carryOut 17 = .ok (.goto 4, 3) := by decide +kernel
theorem dX7_carryOut_20 : decode cX7_carryOut 20 = .ok (.iconst 0, 1) := by decide +kernel
theorem dX7_carryOut_21 : decode cX7_carryOut 21 = .ok (.invokevirtual 105, 3) := by decide +kernel
theorem dX7_carryOut_24 : decode cX7_carryOut 24 = .ok (.goto 20, 3) := by decide +kernel
theorem dX7_carryOut_27 : decode cX7_carryOut 27 = .ok (.aload_n 0, 1) := by decide +kernel
theorem dX7_carryOut_28 : decode cX7_carryOut 28 = .ok (.iload_n 1, 1) := by decide +kernel
theorem dX7_carryOut_29 : decode cX7_carryOut 29 = .ok (.bipush 6, 2) := by decide +kernel
theorem dX7_carryOut_31 : decode cX7_carryOut 31 = .ok (.iload_n 2, 1) := by decide +kernel
theorem dX7_carryOut_32 : decode cX7_carryOut 32 = .ok (.iconst 2, 1) := by decide +kernel
theorem dX7_carryOut_33 : decode cX7_carryOut 33 = .ok (.if_icmp .ne 7, 3) := by decide +kernel
theorem dX7_carryOut_36 : decode cX7_carryOut 36 = .ok (.iconst 1, 1) := by decide +kernel
theorem dX7_carryOut_37 : decode cX7_carryOut 37 = .ok (.goto 4, 3) := by decide +kernel
theorem dX7_carryOut_40 : decode cX7_carryOut 40 = .ok (.iconst 0, 1) := by decide +kernel
theorem dX7_carryOut_41 : decode cX7_carryOut 41 = .ok (.invokevirtual 105, 3) := by decide +kernel
theorem dX7_carryOut_44 : decode cX7_carryOut 44 = .ok (.aload_n 0, 1) := by decide +kernel
theorem dX7_carryOut_45 : decode cX7_carryOut 45 = .ok (.iload_n 1, 1) := by decide +kernel
theorem dX7_carryOut_46 : decode cX7_carryOut 46 = .ok (.iconst 3, 1) := by decide +kernel
theorem dX7_carryOut_47 : decode cX7_carryOut 47 = .ok (.invokevirtual 108, 3) := by decide +kernel
theorem dX7_carryOut_50 : decode cX7_carryOut 50 = .ok (.return_, 1) := by decide +kernel
theorem dX7_tickOnce_0 : decode cX7_tickOnce 0 = .ok (.aload_n 0, 1) := by decide +kernel
theorem dX7_tickOnce_1 : decode cX7_tickOnce 1 = .ok (.getfield 24, 3) := by decide +kernel
theorem dX7_tickOnce_4 : decode cX7_tickOnce 4 = .ok (.iconst 1, 1) := by decide +kernel
theorem dX7_tickOnce_5 : decode cX7_tickOnce 5 = .ok (.dup2, 1) := by decide +kernel
theorem dX7_tickOnce_6 : decode cX7_tickOnce 6 = .ok (.iaload, 1) := by decide +kernel
theorem dX7_tickOnce_7 : decode cX7_tickOnce 7 = .ok (.iconst 1, 1) := by decide +kernel
theorem dX7_tickOnce_8 : decode cX7_tickOnce 8 = .ok (.iadd, 1) := by decide +kernel
theorem dX7_tickOnce_9 : decode cX7_tickOnce 9 = .ok (.iastore, 1) := by decide +kernel
theorem dX7_tickOnce_10 : decode cX7_tickOnce 10 = .ok (.iconst 0, 1) := by decide +kernel
theorem dX7_tickOnce_11 : decode cX7_tickOnce 11 = .ok (.istore_n 1, 1) := by decide +kernel
theorem dX7_tickOnce_12 : decode cX7_tickOnce 12 = .ok (.iload_n 1, 1) := by decide +kernel
theorem dX7_tickOnce_13 : decode cX7_tickOnce 13 = .ok (.aload_n 0, 1) := by decide +kernel
theorem dX7_tickOnce_14 : decode cX7_tickOnce 14 = .ok (.getfield 24, 3) := by decide +kernel
theorem dX7_tickOnce_17 : decode cX7_tickOnce 17 = .ok (.iconst 3, 1) := by decide +kernel
theorem dX7_tickOnce_18 : decode cX7_tickOnce 18 = .ok (.iaload, 1) := by decide +kernel
theorem dX7_tickOnce_19 : decode cX7_tickOnce 19 = .ok (.if_icmp .ge 40, 3) := by decide +kernel
theorem dX7_tickOnce_22 : decode cX7_tickOnce 22 = .ok (.aload_n 0, 1) := by decide +kernel
theorem dX7_tickOnce_23 : decode cX7_tickOnce 23 = .ok (.iload_n 1, 1) := by decide +kernel
theorem dX7_tickOnce_24 : decode cX7_tickOnce 24 = .ok (.iconst 0, 1) := by decide +kernel
theorem dX7_tickOnce_25 : decode cX7_tickOnce 25 = .ok (.invokevirtual 132, 3) := by decide +kernel
theorem dX7_tickOnce_28 : decode cX7_tickOnce 28 = .ok (.aload_n 0, 1) := by decide +kernel
theorem dX7_tickOnce_29 : decode cX7_tickOnce 29 = .ok (.getfield 24, 3) := by decide +kernel
theorem dX7_tickOnce_32 : decode cX7_tickOnce 32 = .ok (.iconst 1, 1) := by decide +kernel
theorem dX7_tickOnce_33 : decode cX7_tickOnce 33 = .ok (.iaload, 1) := by decide +kernel
theorem dX7_tickOnce_34 : decode cX7_tickOnce 34 = .ok (.if_icmp .ne 25, 3) := by decide +kernel
theorem dX7_tickOnce_37 : decode cX7_tickOnce 37 = .ok (.aload_n 0, 1) := by decide +kernel
theorem dX7_tickOnce_38 : decode cX7_tickOnce 38 = .ok (.aload_n 0, 1) := by decide +kernel
theorem dX7_tickOnce_39 : decode cX7_tickOnce 39 = .ok (.iload_n 1, 1) := by decide +kernel
theorem dX7_tickOnce_40 : decode cX7_tickOnce 40 = .ok (.iconst 1, 1) := by decide +kernel
theorem dX7_tickOnce_41 : decode cX7_tickOnce 41 = .ok (.invokevirtual 132, 3) := by decide +kernel
theorem dX7_tickOnce_44 : decode cX7_tickOnce 44 = .ok (.aload_n 0, 1) := by decide +kernel
theorem dX7_tickOnce_45 : decode cX7_tickOnce 45 = .ok (.iload_n 1, 1) := by decide +kernel
theorem dX7_tickOnce_46 : decode cX7_tickOnce 46 = .ok (.iconst 2, 1) := by decide +kernel
theorem dX7_tickOnce_47 : decode cX7_tickOnce 47 = .ok (.invokevirtual 132, 3) := by decide +kernel
theorem dX7_tickOnce_50 : decode cX7_tickOnce 50 = .ok (.invokevirtual 135, 3) := by decide +kernel
theorem dX7_tickOnce_53 : decode cX7_tickOnce 53 = .ok (.iinc 1 1, 3) := by decide +kernel
theorem dX7_tickOnce_56 : decode cX7_tickOnce 56 = .ok (.goto (-44), 3) := by decide +kernel
theorem dX7_tickOnce_59 : decode cX7_tickOnce 59 = .ok (.aload_n 0, 1) := by decide +kernel
theorem dX7_tickOnce_60 : decode cX7_tickOnce 60 = .ok (.iconst 0, 1) := by decide +kernel
theorem dX7_tickOnce_61 : decode cX7_tickOnce 61 = .ok (.iload_n 1, 1) := by decide +kernel
theorem dX7_tickOnce_62 : decode cX7_tickOnce 62 = .ok (.invokevirtual 138, 3) := by decide +kernel
theorem dX7_tickOnce_65 : decode cX7_tickOnce 65 = .ok (.iconst 0, 1) := by decide +kernel
theorem dX7_tickOnce_66 : decode cX7_tickOnce 66 = .ok (.istore_n 2, 1) := by decide +kernel
theorem dX7_tickOnce_67 : decode cX7_tickOnce 67 = .ok (.iload_n 2, 1) := by decide +kernel
theorem dX7_tickOnce_68 : decode cX7_tickOnce 68 = .ok (.aload_n 0, 1) := by decide +kernel
theorem dX7_tickOnce_69 : decode cX7_tickOnce 69 = .ok (.invokevirtual 56, 3) := by decide +kernel
theorem dX7_tickOnce_72 : decode cX7_tickOnce 72 = .ok (.if_icmp .ge 14, 3) := by decide +kernel
theorem dX7_tickOnce_75 : decode cX7_tickOnce 75 = .ok (.aload_n 0, 1) := by decide +kernel
theorem dX7_tickOnce_76 : decode cX7_tickOnce 76 = .ok (.iload_n 2, 1) := by decide +kernel
theorem dX7_tickOnce_77 : decode cX7_tickOnce 77 = .ok (.invokevirtual 141, 3) := by decide +kernel
theorem dX7_tickOnce_80 : decode cX7_tickOnce 80 = .ok (.iinc 2 1, 3) := by decide +kernel
theorem dX7_tickOnce_83 : decode cX7_tickOnce 83 = .ok (.goto (-16), 3) := by decide +kernel
theorem dX7_tickOnce_86 : decode cX7_tickOnce 86 = .ok (.return_, 1) := by decide +kernel
theorem dX7_ticks_0 : decode cX7_ticks 0 = .ok (.iconst 0, 1) := by decide +kernel
theorem dX7_ticks_1 : decode cX7_ticks 1 = .ok (.istore_n 2, 1) := by decide +kernel
theorem dX7_ticks_2 : decode cX7_ticks 2 = .ok (.iload_n 2, 1) := by decide +kernel
theorem dX7_ticks_3 : decode cX7_ticks 3 = .ok (.iload_n 1, 1) := by decide +kernel
theorem dX7_ticks_4 : decode cX7_ticks 4 = .ok (.if_icmp .ge 13, 3) := by decide +kernel
theorem dX7_ticks_7 : decode cX7_ticks 7 = .ok (.aload_n 0, 1) := by decide +kernel
theorem dX7_ticks_8 : decode cX7_ticks 8 = .ok (.invokevirtual 144, 3) := by decide +kernel
theorem dX7_ticks_11 : decode cX7_ticks 11 = .ok (.iinc 2 1, 3) := by decide +kernel
theorem dX7_ticks_14 : decode cX7_ticks 14 = .ok (.goto (-12), 3) := by decide +kernel
theorem dX7_ticks_17 : decode cX7_ticks 17 = .ok (.return_, 1) := by decide +kernel
theorem dX7_addPlan_0 : decode cX7_addPlan 0 = .ok (.aload_n 0, 1) := by decide +kernel
theorem dX7_addPlan_1 : decode cX7_addPlan 1 = .ok (.getfield 24, 3) := by decide +kernel
theorem dX7_addPlan_4 : decode cX7_addPlan 4 = .ok (.iconst 3, 1) := by decide +kernel
theorem dX7_addPlan_5 : decode cX7_addPlan 5 = .ok (.iaload, 1) := by decide +kernel
theorem dX7_addPlan_6 : decode cX7_addPlan 6 = .ok (.istore 4, 2) := by decide +kernel
theorem dX7_addPlan_8 : decode cX7_addPlan 8 = .ok (.iload 4, 2) := by decide +kernel
theorem dX7_addPlan_10 : decode cX7_addPlan 10 = .ok (.ifCond .le 69, 3) := by decide +kernel
theorem dX7_addPlan_13 : decode cX7_addPlan 13 = .ok (.aload_n 0, 1) := by decide +kernel
theorem dX7_addPlan_14 : decode cX7_addPlan 14 = .ok (.iload 4, 2) := by decide +kernel
theorem dX7_addPlan_16 : decode cX7_addPlan 16 = .ok (.iconst 1, 1) := by decide +kernel
theorem dX7_addPlan_17 : decode cX7_addPlan 17 = .ok (.isub, 1) := by decide +kernel
theorem dX7_addPlan_18 : decode cX7_addPlan 18 = .ok (.iconst 0, 1) := by decide +kernel
theorem dX7_addPlan_19 : decode cX7_addPlan 19 = .ok (.invokevirtual 132, 3) := by decide +kernel
theorem dX7_addPlan_22 : decode cX7_addPlan 22 = .ok (.iload_n 1, 1) := by decide +kernel
theorem dX7_addPlan_23 : decode cX7_addPlan 23 = .ok (.if_icmp .le 56, 3) := by decide +kernel
theorem dX7_addPlan_26 : decode cX7_addPlan 26 = .ok (.iconst 0, 1) := by decide +kernel
theorem dX7_addPlan_27 : decode cX7_addPlan 27 = .ok (.istore 5, 2) := by decide +kernel
theorem dX7_addPlan_29 : decode cX7_addPlan 29 = .ok (.iload 5, 2) := by decide +kernel
theorem dX7_addPlan_31 : decode cX7_addPlan 31 = .ok (.iconst 3, 1) := by decide +kernel
theorem dX7_addPlan_32 : decode cX7_addPlan 32 = .ok (.if_icmp .ge 41, 3) := by decide +kernel
theorem dX7_addPlan_35 : decode cX7_addPlan 35 = .ok (.aload_n 0, 1) := by decide +kernel
theorem dX7_addPlan_36 : decode cX7_addPlan 36 = .ok (.getfield 24, 3) := by decide +kernel
theorem dX7_addPlan_39 : decode cX7_addPlan 39 = .ok (.bipush 11, 2) := by decide +kernel
theorem dX7_addPlan_41 : decode cX7_addPlan 41 = .ok (.iconst 3, 1) := by decide +kernel
theorem dX7_addPlan_42 : decode cX7_addPlan 42 = .ok (.iload 4, 2) := by decide +kernel
theorem dX7_addPlan_44 : decode cX7_addPlan 44 = .ok (.imul, 1) := by decide +kernel
theorem dX7_addPlan_45 : decode cX7_addPlan 45 = .ok (.iadd, 1) := by decide +kernel
theorem dX7_addPlan_46 : decode cX7_addPlan 46 = .ok (.iload 5, 2) := by decide +kernel
theorem dX7_addPlan_48 : decode cX7_addPlan 48 = .ok (.iadd, 1) := by decide +kernel
theorem dX7_addPlan_49 : decode cX7_addPlan 49 = .ok (.aload_n 0, 1) := by decide +kernel
theorem dX7_addPlan_50 : decode cX7_addPlan 50 = .ok (.getfield 24, 3) := by decide +kernel
theorem dX7_addPlan_53 : decode cX7_addPlan 53 = .ok (.bipush 11, 2) := by decide +kernel
theorem dX7_addPlan_55 : decode cX7_addPlan 55 = .ok (.iconst 3, 1) := by decide +kernel
theorem dX7_addPlan_56 : decode cX7_addPlan 56 = .ok (.iload 4, 2) := by decide +kernel
theorem dX7_addPlan_58 : decode cX7_addPlan 58 = .ok (.iconst 1, 1) := by decide +kernel
theorem dX7_addPlan_59 : decode cX7_addPlan 59 = .ok (.isub, 1) := by decide +kernel
theorem dX7_addPlan_60 : decode cX7_addPlan 60 = .ok (.imul, 1) := by decide +kernel
theorem dX7_addPlan_61 : decode cX7_addPlan 61 = .ok (.iadd, 1) := by decide +kernel
theorem dX7_addPlan_62 : decode cX7_addPlan 62 = .ok (.iload 5, 2) := by decide +kernel
theorem dX7_addPlan_64 : decode cX7_addPlan 64 = .ok (.iadd, 1) := by decide +kernel
theorem dX7_addPlan_65 : decode cX7_addPlan 65 = .ok (.iaload, 1) := by decide +kernel
theorem dX7_addPlan_66 : decode cX7_addPlan 66 = .ok (.iastore, 1) := by decide +kernel
theorem dX7_addPlan_67 : decode cX7_addPlan 67 = .ok (.iinc 5 1, 3) := by decide +kernel
theorem dX7_addPlan_70 : decode cX7_addPlan 70 = .ok (.goto (-41), 3) := by decide +kernel
theorem dX7_addPlan_73 : decode cX7_addPlan 73 = .ok (.iinc 4 (-1), 3) := by decide +kernel
theorem dX7_addPlan_76 : decode cX7_addPlan 76 = .ok (.goto (-68), 3) := by decide +kernel
theorem dX7_addPlan_79 : decode cX7_addPlan 79 = .ok (.aload_n 0, 1) := by decide +kernel
theorem dX7_addPlan_80 : decode cX7_addPlan 80 = .ok (.getfield 24, 3) := by decide +kernel
theorem dX7_addPlan_83 : decode cX7_addPlan 83 = .ok (.bipush 11, 2) := by decide +kernel
theorem dX7_addPlan_85 : decode cX7_addPlan 85 = .ok (.iconst 3, 1) := by decide +kernel
theorem dX7_addPlan_86 : decode cX7_addPlan 86 = .ok (.iload 4, 2) := by decide +kernel
theorem dX7_addPlan_88 : decode cX7_addPlan 88 = .ok (.imul, 1) := by decide +kernel
theorem dX7_addPlan_89 : decode cX7_addPlan 89 = .ok (.iadd, 1) := by decide +kernel
theorem dX7_addPlan_90 : decode cX7_addPlan 90 = .ok (.iconst 0, 1) := by decide +kernel
theorem dX7_addPlan_91 : decode cX7_addPlan 91 = .ok (.iadd, 1) := by decide +kernel
theorem dX7_addPlan_92 : decode cX7_addPlan 92 = .ok (.iload_n 1, 1) := by decide +kernel
theorem dX7_addPlan_93 : decode cX7_addPlan 93 = .ok (.iastore, 1) := by decide +kernel
theorem dX7_addPlan_94 : decode cX7_addPlan 94 = .ok (.aload_n 0, 1) := by decide +kernel
theorem dX7_addPlan_95 : decode cX7_addPlan 95 = .ok (.getfield 24, 3) := by decide +kernel
theorem dX7_addPlan_98 : decode cX7_addPlan 98 = .ok (.bipush 11, 2) := by decide +kernel
theorem dX7_addPlan_100 : decode cX7_addPlan 100 = .ok (.iconst 3, 1) := by decide +kernel
theorem dX7_addPlan_101 : decode cX7_addPlan 101 = .ok (.iload 4, 2) := by decide +kernel
theorem dX7_addPlan_103 : decode cX7_addPlan 103 = .ok (.imul, 1) := by decide +kernel
theorem dX7_addPlan_104 : decode cX7_addPlan 104 = .ok (.iadd, 1) := by decide +kernel
theorem dX7_addPlan_105 : decode cX7_addPlan 105 = .ok (.iconst 1, 1) := by decide +kernel
theorem dX7_addPlan_106 : decode cX7_addPlan 106 = .ok (.iadd, 1) := by decide +kernel
theorem dX7_addPlan_107 : decode cX7_addPlan 107 = .ok (.iload_n 2, 1) := by decide +kernel
theorem dX7_addPlan_108 : decode cX7_addPlan 108 = .ok (.iastore, 1) := by decide +kernel
theorem dX7_addPlan_109 : decode cX7_addPlan 109 = .ok (.aload_n 0, 1) := by decide +kernel
theorem dX7_addPlan_110 : decode cX7_addPlan 110 = .ok (.getfield 24, 3) := by decide +kernel
theorem dX7_addPlan_113 : decode cX7_addPlan 113 = .ok (.bipush 11, 2) := by decide +kernel
theorem dX7_addPlan_115 : decode cX7_addPlan 115 = .ok (.iconst 3, 1) := by decide +kernel
theorem dX7_addPlan_116 : decode cX7_addPlan 116 = .ok (.iload 4, 2) := by decide +kernel
theorem dX7_addPlan_118 : decode cX7_addPlan 118 = .ok (.imul, 1) := by decide +kernel
theorem dX7_addPlan_119 : decode cX7_addPlan 119 = .ok (.iadd, 1) := by decide +kernel
theorem dX7_addPlan_120 : decode cX7_addPlan 120 = .ok (.iconst 2, 1) := by decide +kernel
theorem dX7_addPlan_121 : decode cX7_addPlan 121 = .ok (.iadd, 1) := by decide +kernel
theorem dX7_addPlan_122 : decode cX7_addPlan 122 = .ok (.iload_n 3, 1) := by decide +kernel
theorem dX7_addPlan_123 : decode cX7_addPlan 123 = .ok (.iastore, 1) := by decide +kernel
theorem dX7_addPlan_124 : decode cX7_addPlan 124 = .ok (.aload_n 0, 1) := by decide +kernel
theorem dX7_addPlan_125 : decode cX7_addPlan 125 = .ok (.getfield 24, 3) := by decide +kernel
theorem dX7_addPlan_128 : decode cX7_addPlan 128 = .ok (.iconst 3, 1) := by decide +kernel
theorem dX7_addPlan_129 : decode cX7_addPlan 129 = .ok (.dup2, 1) := by decide +kernel
theorem dX7_addPlan_130 : decode cX7_addPlan 130 = .ok (.iaload, 1) := by decide +kernel
theorem dX7_addPlan_131 : decode cX7_addPlan 131 = .ok (.iconst 1, 1) := by decide +kernel
theorem dX7_addPlan_132 : decode cX7_addPlan 132 = .ok (.iadd, 1) := by decide +kernel
theorem dX7_addPlan_133 : decode cX7_addPlan 133 = .ok (.iastore, 1) := by decide +kernel
theorem dX7_addPlan_134 : decode cX7_addPlan 134 = .ok (.iload 4, 2) := by decide +kernel
theorem dX7_addPlan_136 : decode cX7_addPlan 136 = .ok (.ireturn, 1) := by decide +kernel
theorem dX7_keepAside_0 : decode cX7_keepAside 0 = .ok (.iconst 0, 1) := by decide +kernel
theorem dX7_keepAside_1 : decode cX7_keepAside 1 = .ok (.istore_n 1, 1) := by decide +kernel
theorem dX7_keepAside_2 : decode cX7_keepAside 2 = .ok (.iload_n 1, 1) := by decide +kernel
theorem dX7_keepAside_3 : decode cX7_keepAside 3 = .ok (.sipush 467, 3) := by decide +kernel
theorem dX7_keepAside_6 : decode cX7_keepAside 6 = .ok (.if_icmp .ge 21, 3) := by decide +kernel
theorem dX7_keepAside_9 : decode cX7_keepAside 9 = .ok (.aload_n 0, 1) := by decide +kernel
theorem dX7_keepAside_10 : decode cX7_keepAside 10 = .ok (.getfield 27, 3) := by decide +kernel
theorem dX7_keepAside_13 : decode cX7_keepAside 13 = .ok (.iload_n 1, 1) := by decide +kernel
theorem dX7_keepAside_14 : decode cX7_keepAside 14 = .ok (.aload_n 0, 1) := by decide +kernel
theorem dX7_keepAside_15 : decode cX7_keepAside 15 = .ok (.getfield 17, 3) := by decide +kernel
theorem dX7_keepAside_18 : decode cX7_keepAside 18 = .ok (.iload_n 1, 1) := by decide +kernel
theorem dX7_keepAside_19 : decode cX7_keepAside 19 = .ok (.iaload, 1) := by decide +kernel
theorem dX7_keepAside_20 : decode cX7_keepAside 20 = .ok (.iastore, 1) := by decide +kernel
theorem dX7_keepAside_21 : decode cX7_keepAside 21 = .ok (.iinc 1 1, 3) := by decide +kernel
theorem dX7_keepAside_24 : decode cX7_keepAside 24 = .ok (.goto (-22), 3) := by decide +kernel
theorem dX7_keepAside_27 : decode cX7_keepAside 27 = .ok (.return_, 1) := by decide +kernel
theorem dX7_layBack_0 : decode cX7_layBack 0 = .ok (.iconst 0, 1) := by decide +kernel
theorem dX7_layBack_1 : decode cX7_layBack 1 = .ok (.istore_n 2, 1) := by decide +kernel
theorem dX7_layBack_2 : decode cX7_layBack 2 = .ok (.iload_n 2, 1) := by decide +kernel
theorem dX7_layBack_3 : decode cX7_layBack 3 = .ok (.sipush 467, 3) := by decide +kernel
theorem dX7_layBack_6 : decode cX7_layBack 6 = .ok (.if_icmp .ge 21, 3) := by decide +kernel
theorem dX7_layBack_9 : decode cX7_layBack 9 = .ok (.aload_n 0, 1) := by decide +kernel
theorem dX7_layBack_10 : decode cX7_layBack 10 = .ok (.getfield 17, 3) := by decide +kernel
theorem dX7_layBack_13 : decode cX7_layBack 13 = .ok (.iload_n 2, 1) := by decide +kernel
theorem dX7_layBack_14 : decode cX7_layBack 14 = .ok (.aload_n 0, 1) := by decide +kernel
theorem dX7_layBack_15 : decode cX7_layBack 15 = .ok (.getfield 27, 3) := by decide +kernel
theorem dX7_layBack_18 : decode cX7_layBack 18 = .ok (.iload_n 2, 1) := by decide +kernel
theorem dX7_layBack_19 : decode cX7_layBack 19 = .ok (.iaload, 1) := by decide +kernel
theorem dX7_layBack_20 : decode cX7_layBack 20 = .ok (.iastore, 1) := by decide +kernel
theorem dX7_layBack_21 : decode cX7_layBack 21 = .ok (.iinc 2 1, 3) := by decide +kernel
theorem dX7_layBack_24 : decode cX7_layBack 24 = .ok (.goto (-22), 3) := by decide +kernel
theorem dX7_layBack_27 : decode cX7_layBack 27 = .ok (.iload_n 1, 1) := by decide +kernel
theorem dX7_layBack_28 : decode cX7_layBack 28 = .ok (.ireturn, 1) := by decide +kernel
theorem dX7_later_0 : decode cX7_later 0 = .ok (.aload_n 0, 1) := by decide +kernel
theorem dX7_later_1 : decode cX7_later 1 = .ok (.iload_n 3, 1) := by decide +kernel
theorem dX7_later_2 : decode cX7_later 2 = .ok (.invokevirtual 147, 3) := by decide +kernel
theorem dX7_later_5 : decode cX7_later 5 = .ok (.aload_n 0, 1) := by decide +kernel
theorem dX7_later_6 : decode cX7_later 6 = .ok (.iload_n 1, 1) := by decide +kernel
theorem dX7_later_7 : decode cX7_later 7 = .ok (.iload_n 2, 1) := by decide +kernel
theorem dX7_later_8 : decode cX7_later 8 = .ok (.invokevirtual 68, 3) := by decide +kernel
theorem dX7_later_11 : decode cX7_later 11 = .ok (.ireturn, 1) := by decide +kernel
theorem dX7_sumOf_0 : decode cX7_sumOf 0 = .ok (.iconst 0, 1) := by decide +kernel
theorem dX7_sumOf_1 : decode cX7_sumOf 1 = .ok (.istore_n 2, 1) := by decide +kernel
theorem dX7_sumOf_2 : decode cX7_sumOf 2 = .ok (.iconst 0, 1) := by decide +kernel
theorem dX7_sumOf_3 : decode cX7_sumOf 3 = .ok (.istore_n 3, 1) := by decide +kernel
theorem dX7_sumOf_4 : decode cX7_sumOf 4 = .ok (.iload_n 3, 1) := by decide +kernel
theorem dX7_sumOf_5 : decode cX7_sumOf 5 = .ok (.aload_n 0, 1) := by decide +kernel
theorem dX7_sumOf_6 : decode cX7_sumOf 6 = .ok (.invokevirtual 56, 3) := by decide +kernel
theorem dX7_sumOf_9 : decode cX7_sumOf 9 = .ok (.if_icmp .ge 18, 3) := by decide +kernel
theorem dX7_sumOf_12 : decode cX7_sumOf 12 = .ok (.iload_n 2, 1) := by decide +kernel
theorem dX7_sumOf_13 : decode cX7_sumOf 13 = .ok (.aload_n 0, 1) := by decide +kernel
theorem dX7_sumOf_14 : decode cX7_sumOf 14 = .ok (.iload_n 3, 1) := by decide +kernel
theorem dX7_sumOf_15 : decode cX7_sumOf 15 = .ok (.iload_n 1, 1) := by decide +kernel
theorem dX7_sumOf_16 : decode cX7_sumOf 16 = .ok (.invokevirtual 68, 3) := by decide +kernel
theorem dX7_sumOf_19 : decode cX7_sumOf 19 = .ok (.iadd, 1) := by decide +kernel
theorem dX7_sumOf_20 : decode cX7_sumOf 20 = .ok (.istore_n 2, 1) := by decide +kernel
theorem dX7_sumOf_21 : decode cX7_sumOf 21 = .ok (.iinc 3 1, 3) := by decide +kernel
theorem dX7_sumOf_24 : decode cX7_sumOf 24 = .ok (.goto (-20), 3) := by decide +kernel
theorem dX7_sumOf_27 : decode cX7_sumOf 27 = .ok (.iload_n 2, 1) := by decide +kernel
theorem dX7_sumOf_28 : decode cX7_sumOf 28 = .ok (.ireturn, 1) := by decide +kernel
theorem dX7_lackOf_0 : decode cX7_lackOf 0 = .ok (.iconst 0, 1) := by decide +kernel
theorem dX7_lackOf_1 : decode cX7_lackOf 1 = .ok (.istore_n 3, 1) := by decide +kernel
theorem dX7_lackOf_2 : decode cX7_lackOf 2 = .ok (.iconst 0, 1) := by decide +kernel
theorem dX7_lackOf_3 : decode cX7_lackOf 3 = .ok (.istore 4, 2) := by decide +kernel
theorem dX7_lackOf_5 : decode cX7_lackOf 5 = .ok (.iload 4, 2) := by decide +kernel
theorem dX7_lackOf_7 : decode cX7_lackOf 7 = .ok (.iload_n 2, 1) := by decide +kernel
theorem dX7_lackOf_8 : decode cX7_lackOf 8 = .ok (.if_icmp .ge 32, 3) := by decide +kernel
theorem dX7_lackOf_11 : decode cX7_lackOf 11 = .ok (.aload_n 0, 1) := by decide +kernel
theorem dX7_lackOf_12 : decode cX7_lackOf 12 = .ok (.invokevirtual 144, 3) := by decide +kernel
theorem dX7_lackOf_15 : decode cX7_lackOf 15 = .ok (.iload_n 3, 1) := by decide +kernel
theorem dX7_lackOf_16 : decode cX7_lackOf 16 = .ok (.iconst 0, 1) := by decide +kernel
theorem dX7_lackOf_17 : decode cX7_lackOf 17 = .ok (.aload_n 0, 1) := by decide +kernel
theorem dX7_lackOf_18 : decode cX7_lackOf 18 = .ok (.iload_n 1, 1) := by decide +kernel
theorem dX7_lackOf_19 : decode cX7_lackOf 19 = .ok (.invokevirtual 78, 3) := by decide +kernel
theorem dX7_lackOf_22 : decode cX7_lackOf 22 = .ok (.aload_n 0, 1) := by decide +kernel
theorem dX7_lackOf_23 : decode cX7_lackOf 23 = .ok (.iload_n 1, 1) := by decide +kernel
theorem dX7_lackOf_24 : decode cX7_lackOf 24 = .ok (.iconst 0, 1) := by decide +kernel
theorem dX7_lackOf_25 : decode cX7_lackOf 25 = .ok (.invokevirtual 68, 3) := by decide +kernel
theorem dX7_lackOf_28 : decode cX7_lackOf 28 = .ok (.isub, 1) := by decide +kernel
theorem dX7_lackOf_29 : decode cX7_lackOf 29 = .ok (.invokestatic 150, 3) := by decide +kernel
theorem dX7_lackOf_32 : decode cX7_lackOf 32 = .ok (.iadd, 1) := by decide +kernel
theorem dX7_lackOf_33 : decode cX7_lackOf 33 = .ok (.istore_n 3, 1) := by decide +kernel
theorem dX7_lackOf_34 : decode cX7_lackOf 34 = .ok (.iinc 4 1, 3) := by decide +kernel
theorem dX7_lackOf_37 : decode cX7_lackOf 37 = .ok (.goto (-32), 3) := by decide +kernel
theorem dX7_lackOf_40 : decode cX7_lackOf 40 = .ok (.iload_n 3, 1) := by decide +kernel
theorem dX7_lackOf_41 : decode cX7_lackOf 41 = .ok (.ireturn, 1) := by decide +kernel
theorem dX7_appendFour_0 : decode cX7_appendFour 0 = .ok (.bipush 24, 2) := by decide +kernel
theorem dX7_appendFour_2 : decode cX7_appendFour 2 = .ok (.istore_n 2, 1) := by decide +kernel
theorem dX7_appendFour_3 : decode cX7_appendFour 3 = .ok (.iload_n 2, 1) := by decide +kernel
theorem dX7_appendFour_4 : decode cX7_appendFour 4 = .ok (.ifCond .lt 32, 3) := by decide +kernel
theorem dX7_appendFour_7 : decode cX7_appendFour 7 = .ok (.aload_n 0, 1) := by decide +kernel
theorem dX7_appendFour_8 : decode cX7_appendFour 8 = .ok (.getfield 30, 3) := by decide +kernel
theorem dX7_appendFour_11 : decode cX7_appendFour 11 = .ok (.aload_n 0, 1) := by decide +kernel
theorem dX7_appendFour_12 : decode cX7_appendFour 12 = .ok (.getfield 152, 3) := by decide +kernel
theorem dX7_appendFour_15 : decode cX7_appendFour 15 = .ok (.iload_n 1, 1) := by decide +kernel
theorem dX7_appendFour_16 : decode cX7_appendFour 16 = .ok (.iload_n 2, 1) := by decide +kernel
theorem dX7_appendFour_17 : decode cX7_appendFour 17 = .ok (.ishr, 1) := by decide +kernel
theorem dX7_appendFour_18 : decode cX7_appendFour 18 = .ok (.i2b, 1) := by decide +kernel
theorem dX7_appendFour_19 : decode cX7_appendFour 19 = .ok (.bastore, 1) := by decide +kernel
theorem dX7_appendFour_20 : decode cX7_appendFour 20 = .ok (.aload_n 0, 1) := by decide +kernel
theorem dX7_appendFour_21 : decode cX7_appendFour 21 = .ok (.dup, 1) := by decide +kernel
theorem dX7_appendFour_22 : decode cX7_appendFour 22 = .ok (.getfield 152, 3) := by decide +kernel
theorem dX7_appendFour_25 : decode cX7_appendFour 25 = .ok (.iconst 1, 1) := by decide +kernel
theorem dX7_appendFour_26 : decode cX7_appendFour 26 = .ok (.iadd, 1) := by decide +kernel
theorem dX7_appendFour_27 : decode cX7_appendFour 27 = .ok (.putfield 152, 3) := by decide +kernel
theorem dX7_appendFour_30 : decode cX7_appendFour 30 = .ok (.iinc 2 (-8), 3) := by decide +kernel
theorem dX7_appendFour_33 : decode cX7_appendFour 33 = .ok (.goto (-30), 3) := by decide +kernel
theorem dX7_appendFour_36 : decode cX7_appendFour 36 = .ok (.return_, 1) := by decide +kernel
theorem dX7_append_0 : decode cX7_append 0 = .ok (.aload_n 0, 1) := by decide +kernel
theorem dX7_append_1 : decode cX7_append 1 = .ok (.aload_n 0, 1) := by decide +kernel
theorem dX7_append_2 : decode cX7_append 2 = .ok (.getfield 152, 3) := by decide +kernel
theorem dX7_append_5 : decode cX7_append 5 = .ok (.bipush 20, 2) := by decide +kernel
theorem dX7_append_7 : decode cX7_append 7 = .ok (.iadd, 1) := by decide +kernel
theorem dX7_append_8 : decode cX7_append 8 = .ok (.sipush 500, 3) := by decide +kernel
theorem dX7_append_11 : decode cX7_append 11 = .ok (.if_icmp .gt 7, 3) := by decide +kernel
theorem dX7_append_14 : decode cX7_append 14 = .ok (.iconst 1, 1) := by decide +kernel
theorem dX7_append_15 : decode cX7_append 15 = .ok (.goto 4, 3) := by decide +kernel
theorem dX7_append_18 : decode cX7_append 18 = .ok (.iconst 0, 1) := by decide +kernel
theorem dX7_append_19 : decode cX7_append 19 = .ok (.invokevirtual 155, 3) := by decide +kernel
theorem dX7_append_22 : decode cX7_append 22 = .ok (.ifCond .ne 5, 3) := by decide +kernel
theorem dX7_append_25 : decode cX7_append 25 = .ok (.iconst 0, 1) := by decide +kernel
theorem dX7_append_26 : decode cX7_append 26 = .ok (.ireturn, 1) := by decide +kernel
theorem dX7_append_27 : decode cX7_append 27 = .ok (.aload_n 0, 1) := by decide +kernel
theorem dX7_append_28 : decode cX7_append 28 = .ok (.iload_n 1, 1) := by decide +kernel
theorem dX7_append_29 : decode cX7_append 29 = .ok (.invokevirtual 159, 3) := by decide +kernel
theorem dX7_append_32 : decode cX7_append 32 = .ok (.aload_n 0, 1) := by decide +kernel
theorem dX7_append_33 : decode cX7_append 33 = .ok (.iload_n 2, 1) := by decide +kernel
theorem dX7_append_34 : decode cX7_append 34 = .ok (.invokevirtual 159, 3) := by decide +kernel
theorem dX7_append_37 : decode cX7_append 37 = .ok (.aload_n 0, 1) := by decide +kernel
theorem dX7_append_38 : decode cX7_append 38 = .ok (.iload_n 3, 1) := by decide +kernel
theorem dX7_append_39 : decode cX7_append 39 = .ok (.invokevirtual 159, 3) := by decide +kernel
theorem dX7_append_42 : decode cX7_append 42 = .ok (.aload_n 0, 1) := by decide +kernel
theorem dX7_append_43 : decode cX7_append 43 = .ok (.iload 4, 2) := by decide +kernel
theorem dX7_append_45 : decode cX7_append 45 = .ok (.invokevirtual 159, 3) := by decide +kernel
theorem dX7_append_48 : decode cX7_append 48 = .ok (.aload_n 0, 1) := by decide +kernel
theorem dX7_append_49 : decode cX7_append 49 = .ok (.iload 5, 2) := by decide +kernel
theorem dX7_append_51 : decode cX7_append 51 = .ok (.invokevirtual 159, 3) := by decide +kernel
theorem dX7_append_54 : decode cX7_append 54 = .ok (.aload_n 0, 1) := by decide +kernel
theorem dX7_append_55 : decode cX7_append 55 = .ok (.getfield 152, 3) := by decide +kernel
theorem dX7_append_58 : decode cX7_append 58 = .ok (.ireturn, 1) := by decide +kernel
theorem dX7_truncate_0 : decode cX7_truncate 0 = .ok (.aload_n 0, 1) := by decide +kernel
theorem dX7_truncate_1 : decode cX7_truncate 1 = .ok (.iload_n 1, 1) := by decide +kernel
theorem dX7_truncate_2 : decode cX7_truncate 2 = .ok (.i2l, 1) := by decide +kernel
theorem dX7_truncate_3 : decode cX7_truncate 3 = .ok (.lconst 0, 1) := by decide +kernel
theorem dX7_truncate_4 : decode cX7_truncate 4 = .ok (.aload_n 0, 1) := by decide +kernel
theorem dX7_truncate_5 : decode cX7_truncate 5 = .ok (.getfield 152, 3) := by decide +kernel
theorem dX7_truncate_8 : decode cX7_truncate 8 = .ok (.i2l, 1) := by decide +kernel
theorem dX7_truncate_9 : decode cX7_truncate 9 = .ok (.invokestatic 60, 3) := by decide +kernel
theorem dX7_truncate_12 : decode cX7_truncate 12 = .ok (.invokevirtual 155, 3) := by decide +kernel
theorem dX7_truncate_15 : decode cX7_truncate 15 = .ok (.ifCond .eq 8, 3) := by decide +kernel
theorem dX7_truncate_18 : decode cX7_truncate 18 = .ok (.aload_n 0, 1) := by decide +kernel
theorem dX7_truncate_19 : decode cX7_truncate 19 = .ok (.iload_n 1, 1) := by decide +kernel
theorem dX7_truncate_20 : decode cX7_truncate 20 = .ok (.putfield 152, 3) := by decide +kernel
theorem dX7_truncate_23 : decode cX7_truncate 23 = .ok (.return_, 1) := by decide +kernel
theorem dX7_good_0 : decode cX7_good 0 = .ok (.aload_n 0, 1) := by decide +kernel
theorem dX7_good_1 : decode cX7_good 1 = .ok (.getfield 162, 3) := by decide +kernel
theorem dX7_good_4 : decode cX7_good 4 = .ok (.ifCond .ne 7, 3) := by decide +kernel
theorem dX7_good_7 : decode cX7_good 7 = .ok (.iconst 1, 1) := by decide +kernel
theorem dX7_good_8 : decode cX7_good 8 = .ok (.goto 4, 3) := by decide +kernel
theorem dX7_good_11 : decode cX7_good 11 = .ok (.iconst 0, 1) := by decide +kernel
theorem dX7_good_12 : decode cX7_good 12 = .ok (.ireturn, 1) := by decide +kernel
theorem dX7_errs_0 : decode cX7_errs 0 = .ok (.aload_n 0, 1) := by decide +kernel
theorem dX7_errs_1 : decode cX7_errs 1 = .ok (.invokevirtual 165, 3) := by decide +kernel
theorem dX7_errs_4 : decode cX7_errs 4 = .ok (.ifCond .ne 4, 3) := by decide +kernel
theorem dX7_errs_7 : decode cX7_errs 7 = .ok (.return_, 1) := by decide +kernel
theorem dX7_errs_8 : decode cX7_errs 8 = .ok (.aload_n 0, 1) := by decide +kernel
theorem dX7_errs_9 : decode cX7_errs 9 = .ok (.iload_n 1, 1) := by decide +kernel
theorem dX7_errs_10 : decode cX7_errs 10 = .ok (.putfield 162, 3) := by decide +kernel
theorem dX7_errs_13 : decode cX7_errs 13 = .ok (.aload_n 0, 1) := by decide +kernel
theorem dX7_errs_14 : decode cX7_errs 14 = .ok (.aload_n 0, 1) := by decide +kernel
theorem dX7_errs_15 : decode cX7_errs 15 = .ok (.getfield 169, 3) := by decide +kernel
theorem dX7_errs_18 : decode cX7_errs 18 = .ok (.putfield 34, 3) := by decide +kernel
theorem dX7_errs_21 : decode cX7_errs 21 = .ok (.return_, 1) := by decide +kernel
theorem dX7_byteAt_0 : decode cX7_byteAt 0 = .ok (.iload_n 1, 1) := by decide +kernel
theorem dX7_byteAt_1 : decode cX7_byteAt 1 = .ok (.aload_n 0, 1) := by decide +kernel
theorem dX7_byteAt_2 : decode cX7_byteAt 2 = .ok (.getfield 172, 3) := by decide +kernel
theorem dX7_byteAt_5 : decode cX7_byteAt 5 = .ok (.if_icmp .ge 16, 3) := by decide +kernel
theorem dX7_byteAt_8 : decode cX7_byteAt 8 = .ok (.aload_n 0, 1) := by decide +kernel
theorem dX7_byteAt_9 : decode cX7_byteAt 9 = .ok (.getfield 30, 3) := by decide +kernel
theorem dX7_byteAt_12 : decode cX7_byteAt 12 = .ok (.iload_n 1, 1) := by decide +kernel
theorem dX7_byteAt_13 : decode cX7_byteAt 13 = .ok (.baload, 1) := by decide +kernel
theorem dX7_byteAt_14 : decode cX7_byteAt 14 = .ok (.sipush 255, 3) := by decide +kernel
theorem dX7_byteAt_17 : decode cX7_byteAt 17 = .ok (.iand, 1) := by decide +kernel
theorem dX7_byteAt_18 : decode cX7_byteAt 18 = .ok (.goto 4, 3) := by decide +kernel
theorem dX7_byteAt_21 : decode cX7_byteAt 21 = .ok (.iconst (-1), 1) := by decide +kernel
theorem dX7_byteAt_22 : decode cX7_byteAt 22 = .ok (.ireturn, 1) := by decide +kernel
theorem dX7_scan_0 : decode cX7_scan 0 = .ok (.aload_n 0, 1) := by decide +kernel
theorem dX7_scan_1 : decode cX7_scan 1 = .ok (.aload_n 0, 1) := by decide +kernel
theorem dX7_scan_2 : decode cX7_scan 2 = .ok (.getfield 175, 3) := by decide +kernel
theorem dX7_scan_5 : decode cX7_scan 5 = .ok (.invokevirtual 178, 3) := by decide +kernel
theorem dX7_scan_8 : decode cX7_scan 8 = .ok (.bipush 32, 2) := by decide +kernel
theorem dX7_scan_10 : decode cX7_scan 10 = .ok (.if_icmp .eq 16, 3) := by decide +kernel
theorem dX7_scan_13 : decode cX7_scan 13 = .ok (.aload_n 0, 1) := by decide +kernel
theorem dX7_scan_14 : decode cX7_scan 14 = .ok (.aload_n 0, 1) := by decide +kernel
theorem dX7_scan_15 : decode cX7_scan 15 = .ok (.getfield 175, 3) := by decide +kernel
theorem dX7_scan_18 : decode cX7_scan 18 = .ok (.invokevirtual 178, 3) := by decide +kernel
theorem dX7_scan_21 : decode cX7_scan 21 = .ok (.bipush 10, 2) := by decide +kernel
theorem dX7_scan_23 : decode cX7_scan 23 = .ok (.if_icmp .ne 16, 3) := by decide +kernel
theorem dX7_scan_26 : decode cX7_scan 26 = .ok (.aload_n 0, 1) := by decide +kernel
theorem dX7_scan_27 : decode cX7_scan 27 = .ok (.dup, 1) := by decide +kernel
theorem dX7_scan_28 : decode cX7_scan 28 = .ok (.getfield 175, 3) := by decide +kernel
theorem dX7_scan_31 : decode cX7_scan 31 = .ok (.iconst 1, 1) := by decide +kernel
theorem dX7_scan_32 : decode cX7_scan 32 = .ok (.iadd, 1) := by decide +kernel
theorem dX7_scan_33 : decode cX7_scan 33 = .ok (.putfield 175, 3) := by decide +kernel
theorem dX7_scan_36 : decode cX7_scan 36 = .ok (.goto (-36), 3) := by decide +kernel
theorem dX7_scan_39 : decode cX7_scan 39 = .ok (.aload_n 0, 1) := by decide +kernel
theorem dX7_scan_40 : decode cX7_scan 40 = .ok (.aload_n 0, 1) := by decide +kernel
theorem dX7_scan_41 : decode cX7_scan 41 = .ok (.getfield 175, 3) := by decide +kernel
theorem dX7_scan_44 : decode cX7_scan 44 = .ok (.putfield 169, 3) := by decide +kernel
theorem dX7_scan_47 : decode cX7_scan 47 = .ok (.aload_n 0, 1) := by decide +kernel
theorem dX7_scan_48 : decode cX7_scan 48 = .ok (.aload_n 0, 1) := by decide +kernel
theorem dX7_scan_49 : decode cX7_scan 49 = .ok (.getfield 175, 3) := by decide +kernel
theorem dX7_scan_52 : decode cX7_scan 52 = .ok (.invokevirtual 178, 3) := by decide +kernel
theorem dX7_scan_55 : decode cX7_scan 55 = .ok (.istore_n 1, 1) := by decide +kernel
theorem dX7_scan_56 : decode cX7_scan 56 = .ok (.iload_n 1, 1) := by decide +kernel
theorem dX7_scan_57 : decode cX7_scan 57 = .ok (.iconst (-1), 1) := by decide +kernel
theorem dX7_scan_58 : decode cX7_scan 58 = .ok (.if_icmp .ne 11, 3) := by decide +kernel
theorem dX7_scan_61 : decode cX7_scan 61 = .ok (.aload_n 0, 1) := by decide +kernel
theorem dX7_scan_62 : decode cX7_scan 62 = .ok (.iconst 0, 1) := by decide +kernel
theorem dX7_scan_63 : decode cX7_scan 63 = .ok (.putfield 181, 3) := by decide +kernel
theorem dX7_scan_66 : decode cX7_scan 66 = .ok (.goto 168, 3) := by decide +kernel
theorem dX7_scan_69 : decode cX7_scan 69 = .ok (.iload_n 1, 1) := by decide +kernel
theorem dX7_scan_70 : decode cX7_scan 70 = .ok (.i2l, 1) := by decide +kernel
theorem dX7_scan_71 : decode cX7_scan 71 = .ok (.ldc2_w 184, 3) := by decide +kernel
theorem dX7_scan_74 : decode cX7_scan 74 = .ok (.ldc2_w 186, 3) := by decide +kernel
theorem dX7_scan_77 : decode cX7_scan 77 = .ok (.invokestatic 60, 3) := by decide +kernel
theorem dX7_scan_80 : decode cX7_scan 80 = .ok (.ifCond .eq 45, 3) := by decide +kernel
theorem dX7_scan_83 : decode cX7_scan 83 = .ok (.aload_n 0, 1) := by decide +kernel
theorem dX7_scan_84 : decode cX7_scan 84 = .ok (.aload_n 0, 1) := by decide +kernel
theorem dX7_scan_85 : decode cX7_scan 85 = .ok (.getfield 175, 3) := by decide +kernel
theorem dX7_scan_88 : decode cX7_scan 88 = .ok (.invokevirtual 178, 3) := by decide +kernel
theorem dX7_scan_91 : decode cX7_scan 91 = .ok (.i2l, 1) := by decide +kernel
theorem dX7_scan_92 : decode cX7_scan 92 = .ok (.ldc2_w 184, 3) := by decide +kernel
theorem dX7_scan_95 : decode cX7_scan 95 = .ok (.ldc2_w 186, 3) := by decide +kernel
theorem dX7_scan_98 : decode cX7_scan 98 = .ok (.invokestatic 60, 3) := by decide +kernel
theorem dX7_scan_101 : decode cX7_scan 101 = .ok (.ifCond .eq 16, 3) := by decide +kernel
theorem dX7_scan_104 : decode cX7_scan 104 = .ok (.aload_n 0, 1) := by decide +kernel
theorem dX7_scan_105 : decode cX7_scan 105 = .ok (.dup, 1) := by decide +kernel
theorem dX7_scan_106 : decode cX7_scan 106 = .ok (.getfield 175, 3) := by decide +kernel
theorem dX7_scan_109 : decode cX7_scan 109 = .ok (.iconst 1, 1) := by decide +kernel
theorem dX7_scan_110 : decode cX7_scan 110 = .ok (.iadd, 1) := by decide +kernel
theorem dX7_scan_111 : decode cX7_scan 111 = .ok (.putfield 175, 3) := by decide +kernel
theorem dX7_scan_114 : decode cX7_scan 114 = .ok (.goto (-31), 3) := by decide +kernel
theorem dX7_scan_117 : decode cX7_scan 117 = .ok (.aload_n 0, 1) := by decide +kernel
theorem dX7_scan_118 : decode cX7_scan 118 = .ok (.iconst 1, 1) := by decide +kernel
theorem dX7_scan_119 : decode cX7_scan 119 = .ok (.putfield 181, 3) := by decide +kernel
theorem dX7_scan_122 : decode cX7_scan 122 = .ok (.goto 112, 3) := by decide +kernel
theorem dX7_scan_125 : decode cX7_scan 125 = .ok (.iload_n 1, 1) := by decide +kernel
theorem dX7_scan_126 : decode cX7_scan 126 = .ok (.i2l, 1) := by decide +kernel
theorem dX7_scan_127 : decode cX7_scan 127 = .ok (.ldc2_w 188, 3) := by decide +kernel
theorem dX7_scan_130 : decode cX7_scan 130 = .ok (.ldc2_w 190, 3) := by decide +kernel
theorem dX7_scan_133 : decode cX7_scan 133 = .ok (.invokestatic 60, 3) := by decide +kernel
theorem dX7_scan_136 : decode cX7_scan 136 = .ok (.ifCond .eq 78, 3) := by decide +kernel
theorem dX7_scan_139 : decode cX7_scan 139 = .ok (.aload_n 0, 1) := by decide +kernel
theorem dX7_scan_140 : decode cX7_scan 140 = .ok (.iconst 0, 1) := by decide +kernel
theorem dX7_scan_141 : decode cX7_scan 141 = .ok (.putfield 192, 3) := by decide +kernel
theorem dX7_scan_144 : decode cX7_scan 144 = .ok (.aload_n 0, 1) := by decide +kernel
theorem dX7_scan_145 : decode cX7_scan 145 = .ok (.aload_n 0, 1) := by decide +kernel
theorem dX7_scan_146 : decode cX7_scan 146 = .ok (.getfield 175, 3) := by decide +kernel
theorem dX7_scan_149 : decode cX7_scan 149 = .ok (.invokevirtual 178, 3) := by decide +kernel
theorem dX7_scan_152 : decode cX7_scan 152 = .ok (.i2l, 1) := by decide +kernel
theorem dX7_scan_153 : decode cX7_scan 153 = .ok (.ldc2_w 188, 3) := by decide +kernel
theorem dX7_scan_156 : decode cX7_scan 156 = .ok (.ldc2_w 190, 3) := by decide +kernel
theorem dX7_scan_159 : decode cX7_scan 159 = .ok (.invokestatic 60, 3) := by decide +kernel
theorem dX7_scan_162 : decode cX7_scan 162 = .ok (.ifCond .eq 44, 3) := by decide +kernel
theorem dX7_scan_165 : decode cX7_scan 165 = .ok (.aload_n 0, 1) := by decide +kernel
theorem dX7_scan_166 : decode cX7_scan 166 = .ok (.ldc 195, 2) := by decide +kernel
theorem dX7_scan_168 : decode cX7_scan 168 = .ok (.bipush 10, 2) := by decide +kernel
theorem dX7_scan_170 : decode cX7_scan 170 = .ok (.aload_n 0, 1) := by decide +kernel
theorem dX7_scan_171 : decode cX7_scan 171 = .ok (.getfield 192, 3) := by decide +kernel
theorem dX7_scan_174 : decode cX7_scan 174 = .ok (.imul, 1) := by decide +kernel
theorem dX7_scan_175 : decode cX7_scan 175 = .ok (.aload_n 0, 1) := by decide +kernel
theorem dX7_scan_176 : decode cX7_scan 176 = .ok (.aload_n 0, 1) := by decide +kernel
theorem dX7_scan_177 : decode cX7_scan 177 = .ok (.getfield 175, 3) := by decide +kernel
theorem dX7_scan_180 : decode cX7_scan 180 = .ok (.invokevirtual 178, 3) := by decide +kernel
theorem dX7_scan_183 : decode cX7_scan 183 = .ok (.iadd, 1) := by decide +kernel
theorem dX7_scan_184 : decode cX7_scan 184 = .ok (.bipush 48, 2) := by decide +kernel
theorem dX7_scan_186 : decode cX7_scan 186 = .ok (.isub, 1) := by decide +kernel
theorem dX7_scan_187 : decode cX7_scan 187 = .ok (.invokestatic 100, 3) := by decide +kernel
theorem dX7_scan_190 : decode cX7_scan 190 = .ok (.putfield 192, 3) := by decide +kernel
theorem dX7_scan_193 : decode cX7_scan 193 = .ok (.aload_n 0, 1) := by decide +kernel
theorem dX7_scan_194 : decode cX7_scan 194 = .ok (.dup, 1) := by decide +kernel
theorem dX7_scan_195 : decode cX7_scan 195 = .ok (.getfield 175, 3) := by decide +kernel
theorem dX7_scan_198 : decode cX7_scan 198 = .ok (.iconst 1, 1) := by decide +kernel
theorem dX7_scan_199 : decode cX7_scan 199 = .ok (.iadd, 1) := by decide +kernel
theorem dX7_scan_200 : decode cX7_scan 200 = .ok (.putfield 175, 3) := by decide +kernel
theorem dX7_scan_203 : decode cX7_scan 203 = .ok (.goto (-59), 3) := by decide +kernel
theorem dX7_scan_206 : decode cX7_scan 206 = .ok (.aload_n 0, 1) := by decide +kernel
theorem dX7_scan_207 : decode cX7_scan 207 = .ok (.iconst 2, 1) := by decide +kernel
theorem dX7_scan_208 : decode cX7_scan 208 = .ok (.putfield 181, 3) := by decide +kernel
theorem dX7_scan_211 : decode cX7_scan 211 = .ok (.goto 23, 3) := by decide +kernel
theorem dX7_scan_214 : decode cX7_scan 214 = .ok (.aload_n 0, 1) := by decide +kernel
theorem dX7_scan_215 : decode cX7_scan 215 = .ok (.iconst 3, 1) := by decide +kernel
theorem dX7_scan_216 : decode cX7_scan 216 = .ok (.putfield 181, 3) := by decide +kernel
theorem dX7_scan_219 : decode cX7_scan 219 = .ok (.aload_n 0, 1) := by decide +kernel
theorem dX7_scan_220 : decode cX7_scan 220 = .ok (.iload_n 1, 1) := by decide +kernel
theorem dX7_scan_221 : decode cX7_scan 221 = .ok (.putfield 192, 3) := by decide +kernel
theorem dX7_scan_224 : decode cX7_scan 224 = .ok (.aload_n 0, 1) := by decide +kernel
theorem dX7_scan_225 : decode cX7_scan 225 = .ok (.dup, 1) := by decide +kernel
theorem dX7_scan_226 : decode cX7_scan 226 = .ok (.getfield 175, 3) := by decide +kernel
theorem dX7_scan_229 : decode cX7_scan 229 = .ok (.iconst 1, 1) := by decide +kernel
theorem dX7_scan_230 : decode cX7_scan 230 = .ok (.iadd, 1) := by decide +kernel
theorem dX7_scan_231 : decode cX7_scan 231 = .ok (.putfield 175, 3) := by decide +kernel
theorem dX7_scan_234 : decode cX7_scan 234 = .ok (.return_, 1) := by decide +kernel
theorem dX7_goNext_0 : decode cX7_goNext 0 = .ok (.aload_n 0, 1) := by decide +kernel
theorem dX7_goNext_1 : decode cX7_goNext 1 = .ok (.invokevirtual 165, 3) := by decide +kernel
theorem dX7_goNext_4 : decode cX7_goNext 4 = .ok (.ifCond .eq 7, 3) := by decide +kernel
theorem dX7_goNext_7 : decode cX7_goNext 7 = .ok (.aload_n 0, 1) := by decide +kernel
theorem dX7_goNext_8 : decode cX7_goNext 8 = .ok (.invokevirtual 196, 3) := by decide +kernel
theorem dX7_goNext_11 : decode cX7_goNext 11 = .ok (.return_, 1) := by decide +kernel
theorem dX7_isWord_0 : decode cX7_isWord 0 = .ok (.aload_n 0, 1) := by decide +kernel
theorem dX7_isWord_1 : decode cX7_isWord 1 = .ok (.invokevirtual 165, 3) := by decide +kernel
theorem dX7_isWord_4 : decode cX7_isWord 4 = .ok (.ifCond .eq 31, 3) := by decide +kernel
theorem dX7_isWord_7 : decode cX7_isWord 7 = .ok (.aload_n 0, 1) := by decide +kernel
theorem dX7_isWord_8 : decode cX7_isWord 8 = .ok (.getfield 181, 3) := by decide +kernel
theorem dX7_isWord_11 : decode cX7_isWord 11 = .ok (.iconst 1, 1) := by decide +kernel
theorem dX7_isWord_12 : decode cX7_isWord 12 = .ok (.if_icmp .ne 23, 3) := by decide +kernel
theorem dX7_isWord_15 : decode cX7_isWord 15 = .ok (.aload_n 0, 1) := by decide +kernel
theorem dX7_isWord_16 : decode cX7_isWord 16 = .ok (.getfield 175, 3) := by decide +kernel
theorem dX7_isWord_19 : decode cX7_isWord 19 = .ok (.aload_n 0, 1) := by decide +kernel
theorem dX7_isWord_20 : decode cX7_isWord 20 = .ok (.getfield 169, 3) := by decide +kernel
theorem dX7_isWord_23 : decode cX7_isWord 23 = .ok (.isub, 1) := by decide +kernel
theorem dX7_isWord_24 : decode cX7_isWord 24 = .ok (.aload_n 1, 1) := by decide +kernel
theorem dX7_isWord_25 : decode cX7_isWord 25 = .ok (.invokevirtual 199, 3) := by decide +kernel
theorem dX7_isWord_28 : decode cX7_isWord 28 = .ok (.if_icmp .ne 7, 3) := by decide +kernel
theorem dX7_isWord_31 : decode cX7_isWord 31 = .ok (.iconst 1, 1) := by decide +kernel
theorem dX7_isWord_32 : decode cX7_isWord 32 = .ok (.goto 4, 3) := by decide +kernel
theorem dX7_isWord_35 : decode cX7_isWord 35 = .ok (.iconst 0, 1) := by decide +kernel
theorem dX7_isWord_36 : decode cX7_isWord 36 = .ok (.istore_n 2, 1) := by decide +kernel
theorem dX7_isWord_37 : decode cX7_isWord 37 = .ok (.iconst 0, 1) := by decide +kernel
theorem dX7_isWord_38 : decode cX7_isWord 38 = .ok (.istore_n 3, 1) := by decide +kernel
theorem dX7_isWord_39 : decode cX7_isWord 39 = .ok (.iload_n 3, 1) := by decide +kernel
theorem dX7_isWord_40 : decode cX7_isWord 40 = .ok (.aload_n 1, 1) := by decide +kernel
theorem dX7_isWord_41 : decode cX7_isWord 41 = .ok (.invokevirtual 199, 3) := by decide +kernel
theorem dX7_isWord_44 : decode cX7_isWord 44 = .ok (.if_icmp .ge 38, 3) := by decide +kernel
theorem dX7_isWord_47 : decode cX7_isWord 47 = .ok (.iload_n 2, 1) := by decide +kernel
theorem dX7_isWord_48 : decode cX7_isWord 48 = .ok (.ifCond .eq 34, 3) := by decide +kernel
theorem dX7_isWord_51 : decode cX7_isWord 51 = .ok (.aload_n 0, 1) := by decide +kernel
theorem dX7_isWord_52 : decode cX7_isWord 52 = .ok (.getfield 30, 3) := by decide +kernel
theorem dX7_isWord_55 : decode cX7_isWord 55 = .ok (.aload_n 0, 1) := by decide +kernel
theorem dX7_isWord_56 : decode cX7_isWord 56 = .ok (.getfield 169, 3) := by decide +kernel
theorem dX7_isWord_59 : decode cX7_isWord 59 = .ok (.iload_n 3, 1) := by decide +kernel
theorem dX7_isWord_60 : decode cX7_isWord 60 = .ok (.iadd, 1) := by decide +kernel
theorem dX7_isWord_61 : decode cX7_isWord 61 = .ok (.baload, 1) := by decide +kernel
theorem dX7_isWord_62 : decode cX7_isWord 62 = .ok (.aload_n 1, 1) := by decide +kernel
theorem dX7_isWord_63 : decode cX7_isWord 63 = .ok (.iload_n 3, 1) := by decide +kernel
theorem dX7_isWord_64 : decode cX7_isWord 64 = .ok (.invokevirtual 204, 3) := by decide +kernel
theorem dX7_isWord_67 : decode cX7_isWord 67 = .ok (.if_icmp .ne 7, 3) := by decide +kernel
theorem dX7_isWord_70 : decode cX7_isWord 70 = .ok (.iconst 1, 1) := by decide +kernel
theorem dX7_isWord_71 : decode cX7_isWord 71 = .ok (.goto 4, 3) := by decide +kernel
theorem dX7_isWord_74 : decode cX7_isWord 74 = .ok (.iconst 0, 1) := by decide +kernel
theorem dX7_isWord_75 : decode cX7_isWord 75 = .ok (.istore_n 2, 1) := by decide +kernel
theorem dX7_isWord_76 : decode cX7_isWord 76 = .ok (.iinc 3 1, 3) := by decide +kernel
theorem dX7_isWord_79 : decode cX7_isWord 79 = .ok (.goto (-40), 3) := by decide +kernel
theorem dX7_isWord_82 : decode cX7_isWord 82 = .ok (.iload_n 2, 1) := by decide +kernel
theorem dX7_isWord_83 : decode cX7_isWord 83 = .ok (.ireturn, 1) := by decide +kernel
theorem dX7_numberHere_0 : decode cX7_numberHere 0 = .ok (.aload_n 0, 1) := by decide +kernel
theorem dX7_numberHere_1 : decode cX7_numberHere 1 = .ok (.invokevirtual 165, 3) := by decide +kernel
theorem dX7_numberHere_4 : decode cX7_numberHere 4 = .ok (.ifCond .eq 16, 3) := by decide +kernel
theorem dX7_numberHere_7 : decode cX7_numberHere 7 = .ok (.aload_n 0, 1) := by decide +kernel
theorem dX7_numberHere_8 : decode cX7_numberHere 8 = .ok (.getfield 181, 3) := by decide +kernel
theorem dX7_numberHere_11 : decode cX7_numberHere 11 = .ok (.iconst 2, 1) := by decide +kernel
theorem dX7_numberHere_12 : decode cX7_numberHere 12 = .ok (.if_icmp .eq 8, 3) := by decide +kernel
theorem dX7_numberHere_15 : decode cX7_numberHere 15 = .ok (.aload_n 0, 1) := by decide +kernel
theorem dX7_numberHere_16 : decode cX7_numberHere 16 = .ok (.iconst 1, 1) := by decide +kernel
theorem dX7_numberHere_17 : decode cX7_numberHere 17 = .ok (.invokevirtual 208, 3) := by decide +kernel
theorem dX7_numberHere_20 : decode cX7_numberHere 20 = .ok (.aload_n 0, 1) := by decide +kernel
theorem dX7_numberHere_21 : decode cX7_numberHere 21 = .ok (.invokevirtual 165, 3) := by decide +kernel
theorem dX7_numberHere_24 : decode cX7_numberHere 24 = .ok (.ifCond .eq 23, 3) := by decide +kernel
theorem dX7_numberHere_27 : decode cX7_numberHere 27 = .ok (.aload_n 0, 1) := by decide +kernel
theorem dX7_numberHere_28 : decode cX7_numberHere 28 = .ok (.getfield 192, 3) := by decide +kernel
theorem dX7_numberHere_31 : decode cX7_numberHere 31 = .ok (.i2l, 1) := by decide +kernel
theorem dX7_numberHere_32 : decode cX7_numberHere 32 = .ok (.iload_n 1, 1) := by decide +kernel
theorem dX7_numberHere_33 : decode cX7_numberHere 33 = .ok (.i2l, 1) := by decide +kernel
theorem dX7_numberHere_34 : decode cX7_numberHere 34 = .ok (.iload_n 2, 1) := by decide +kernel
theorem dX7_numberHere_35 : decode cX7_numberHere 35 = .ok (.i2l, 1) := by decide +kernel
theorem dX7_numberHere_36 : decode cX7_numberHere 36 = .ok (.invokestatic 60, 3) := by decide +kernel
theorem dX7_numberHere_39 : decode cX7_numberHere 39 = .ok (.ifCond .ne 8, 3) := by decide +kernel
theorem dX7_numberHere_42 : decode cX7_numberHere 42 = .ok (.aload_n 0, 1) := by decide +kernel
theorem dX7_numberHere_43 : decode cX7_numberHere 43 = .ok (.iconst 2, 1) := by decide +kernel
theorem dX7_numberHere_44 : decode cX7_numberHere 44 = .ok (.invokevirtual 208, 3) := by decide +kernel
theorem dX7_numberHere_47 : decode cX7_numberHere 47 = .ok (.aload_n 0, 1) := by decide +kernel
theorem dX7_numberHere_48 : decode cX7_numberHere 48 = .ok (.invokevirtual 165, 3) := by decide +kernel
theorem dX7_numberHere_51 : decode cX7_numberHere 51 = .ok (.ifCond .eq 10, 3) := by decide +kernel
theorem dX7_numberHere_54 : decode cX7_numberHere 54 = .ok (.aload_n 0, 1) := by decide +kernel
theorem dX7_numberHere_55 : decode cX7_numberHere 55 = .ok (.getfield 192, 3) := by decide +kernel
theorem dX7_numberHere_58 : decode cX7_numberHere 58 = .ok (.goto 4, 3) := by decide +kernel
theorem dX7_numberHere_61 : decode cX7_numberHere 61 = .ok (.iload_n 1, 1) := by decide +kernel
theorem dX7_numberHere_62 : decode cX7_numberHere 62 = .ok (.ireturn, 1) := by decide +kernel
theorem dX7_number_0 : decode cX7_number 0 = .ok (.aload_n 0, 1) := by decide +kernel
theorem dX7_number_1 : decode cX7_number 1 = .ok (.iload_n 1, 1) := by decide +kernel
theorem dX7_number_2 : decode cX7_number 2 = .ok (.iload_n 2, 1) := by decide +kernel
theorem dX7_number_3 : decode cX7_number 3 = .ok (.invokevirtual 211, 3) := by decide +kernel
theorem dX7_number_6 : decode cX7_number 6 = .ok (.istore_n 3, 1) := by decide +kernel
theorem dX7_number_7 : decode cX7_number 7 = .ok (.aload_n 0, 1) := by decide +kernel
theorem dX7_number_8 : decode cX7_number 8 = .ok (.invokevirtual 214, 3) := by decide +kernel
theorem dX7_number_11 : decode cX7_number 11 = .ok (.iload_n 3, 1) := by decide +kernel
theorem dX7_number_12 : decode cX7_number 12 = .ok (.ireturn, 1) := by decide +kernel
theorem dX7_takeWord_0 : decode cX7_takeWord 0 = .ok (.aload_n 0, 1) := by decide +kernel
theorem dX7_takeWord_1 : decode cX7_takeWord 1 = .ok (.aload_n 1, 1) := by decide +kernel
theorem dX7_takeWord_2 : decode cX7_takeWord 2 = .ok (.invokevirtual 217, 3) := by decide +kernel
theorem dX7_takeWord_5 : decode cX7_takeWord 5 = .ok (.ifCond .ne 8, 3) := by decide +kernel
theorem dX7_takeWord_8 : decode cX7_takeWord 8 = .ok (.aload_n 0, 1) := by decide +kernel
theorem dX7_takeWord_9 : decode cX7_takeWord 9 = .ok (.iconst 1, 1) := by decide +kernel
theorem dX7_takeWord_10 : decode cX7_takeWord 10 = .ok (.invokevirtual 208, 3) := by decide +kernel
theorem dX7_takeWord_13 : decode cX7_takeWord 13 = .ok (.aload_n 0, 1) := by decide +kernel
theorem dX7_takeWord_14 : decode cX7_takeWord 14 = .ok (.invokevirtual 214, 3) := by decide +kernel
theorem dX7_takeWord_17 : decode cX7_takeWord 17 = .ok (.return_, 1) := by decide +kernel
theorem dX7_semicolon_0 : decode cX7_semicolon 0 = .ok (.aload_n 0, 1) := by decide +kernel
theorem dX7_semicolon_1 : decode cX7_semicolon 1 = .ok (.invokevirtual 165, 3) := by decide +kernel
theorem dX7_semicolon_4 : decode cX7_semicolon 4 = .ok (.ifCond .eq 20, 3) := by decide +kernel
theorem dX7_semicolon_7 : decode cX7_semicolon 7 = .ok (.aload_n 0, 1) := by decide +kernel
theorem dX7_semicolon_8 : decode cX7_semicolon 8 = .ok (.getfield 181, 3) := by decide +kernel
theorem dX7_semicolon_11 : decode cX7_semicolon 11 = .ok (.iconst 3, 1) := by decide +kernel
theorem dX7_semicolon_12 : decode cX7_semicolon 12 = .ok (.if_icmp .ne 12, 3) := by decide +kernel
theorem dX7_semicolon_15 : decode cX7_semicolon 15 = .ok (.aload_n 0, 1) := by decide +kernel
theorem dX7_semicolon_16 : decode cX7_semicolon 16 = .ok (.getfield 192, 3) := by decide +kernel
theorem dX7_semicolon_19 : decode cX7_semicolon 19 = .ok (.bipush 59, 2) := by decide +kernel
theorem dX7_semicolon_21 : decode cX7_semicolon 21 = .ok (.if_icmp .eq 8, 3) := by decide +kernel
theorem dX7_semicolon_24 : decode cX7_semicolon 24 = .ok (.aload_n 0, 1) := by decide +kernel
theorem dX7_semicolon_25 : decode cX7_semicolon 25 = .ok (.iconst 1, 1) := by decide +kernel
theorem dX7_semicolon_26 : decode cX7_semicolon 26 = .ok (.invokevirtual 208, 3) := by decide +kernel
theorem dX7_semicolon_29 : decode cX7_semicolon 29 = .ok (.aload_n 0, 1) := by decide +kernel
theorem dX7_semicolon_30 : decode cX7_semicolon 30 = .ok (.invokevirtual 214, 3) := by decide +kernel
theorem dX7_semicolon_33 : decode cX7_semicolon 33 = .ok (.return_, 1) := by decide +kernel
theorem dX7_isKeyword_0 : decode cX7_isKeyword 0 = .ok (.aload_n 0, 1) := by decide +kernel
theorem dX7_isKeyword_1 : decode cX7_isKeyword 1 = .ok (.ldc 221, 2) := by decide +kernel
theorem dX7_isKeyword_3 : decode cX7_isKeyword 3 = .ok (.invokevirtual 217, 3) := by decide +kernel
theorem dX7_isKeyword_6 : decode cX7_isKeyword 6 = .ok (.ifCond .ne 48, 3) := by decide +kernel
theorem dX7_isKeyword_9 : decode cX7_isKeyword 9 = .ok (.aload_n 0, 1) := by decide +kernel
theorem dX7_isKeyword_10 : decode cX7_isKeyword 10 = .ok (.ldc 223, 2) := by decide +kernel
theorem dX7_isKeyword_12 : decode cX7_isKeyword 12 = .ok (.invokevirtual 217, 3) := by decide +kernel
theorem dX7_isKeyword_15 : decode cX7_isKeyword 15 = .ok (.ifCond .ne 39, 3) := by decide +kernel
theorem dX7_isKeyword_18 : decode cX7_isKeyword 18 = .ok (.aload_n 0, 1) := by decide +kernel
theorem dX7_isKeyword_19 : decode cX7_isKeyword 19 = .ok (.ldc 225, 2) := by decide +kernel
theorem dX7_isKeyword_21 : decode cX7_isKeyword 21 = .ok (.invokevirtual 217, 3) := by decide +kernel
theorem dX7_isKeyword_24 : decode cX7_isKeyword 24 = .ok (.ifCond .ne 30, 3) := by decide +kernel
theorem dX7_isKeyword_27 : decode cX7_isKeyword 27 = .ok (.aload_n 0, 1) := by decide +kernel
theorem dX7_isKeyword_28 : decode cX7_isKeyword 28 = .ok (.ldc 227, 2) := by decide +kernel
theorem dX7_isKeyword_30 : decode cX7_isKeyword 30 = .ok (.invokevirtual 217, 3) := by decide +kernel
theorem dX7_isKeyword_33 : decode cX7_isKeyword 33 = .ok (.ifCond .ne 21, 3) := by decide +kernel
theorem dX7_isKeyword_36 : decode cX7_isKeyword 36 = .ok (.aload_n 0, 1) := by decide +kernel
theorem dX7_isKeyword_37 : decode cX7_isKeyword 37 = .ok (.ldc 229, 2) := by decide +kernel
theorem dX7_isKeyword_39 : decode cX7_isKeyword 39 = .ok (.invokevirtual 217, 3) := by decide +kernel
theorem dX7_isKeyword_42 : decode cX7_isKeyword 42 = .ok (.ifCond .ne 12, 3) := by decide +kernel
theorem dX7_isKeyword_45 : decode cX7_isKeyword 45 = .ok (.aload_n 0, 1) := by decide +kernel
theorem dX7_isKeyword_46 : decode cX7_isKeyword 46 = .ok (.ldc 231, 2) := by decide +kernel
theorem dX7_isKeyword_48 : decode cX7_isKeyword 48 = .ok (.invokevirtual 217, 3) := by decide +kernel
theorem dX7_isKeyword_51 : decode cX7_isKeyword 51 = .ok (.ifCond .eq 7, 3) := by decide +kernel
theorem dX7_isKeyword_54 : decode cX7_isKeyword 54 = .ok (.iconst 1, 1) := by decide +kernel
theorem dX7_isKeyword_55 : decode cX7_isKeyword 55 = .ok (.goto 4, 3) := by decide +kernel
theorem dX7_isKeyword_58 : decode cX7_isKeyword 58 = .ok (.iconst 0, 1) := by decide +kernel
theorem dX7_isKeyword_59 : decode cX7_isKeyword 59 = .ok (.istore_n 1, 1) := by decide +kernel
theorem dX7_isKeyword_60 : decode cX7_isKeyword 60 = .ok (.aload_n 0, 1) := by decide +kernel
theorem dX7_isKeyword_61 : decode cX7_isKeyword 61 = .ok (.ldc 232, 2) := by decide +kernel
theorem dX7_isKeyword_63 : decode cX7_isKeyword 63 = .ok (.invokevirtual 217, 3) := by decide +kernel
theorem dX7_isKeyword_66 : decode cX7_isKeyword 66 = .ok (.ifCond .ne 48, 3) := by decide +kernel
theorem dX7_isKeyword_69 : decode cX7_isKeyword 69 = .ok (.aload_n 0, 1) := by decide +kernel
theorem dX7_isKeyword_70 : decode cX7_isKeyword 70 = .ok (.ldc 234, 2) := by decide +kernel
theorem dX7_isKeyword_72 : decode cX7_isKeyword 72 = .ok (.invokevirtual 217, 3) := by decide +kernel
theorem dX7_isKeyword_75 : decode cX7_isKeyword 75 = .ok (.ifCond .ne 39, 3) := by decide +kernel
theorem dX7_isKeyword_78 : decode cX7_isKeyword 78 = .ok (.aload_n 0, 1) := by decide +kernel
theorem dX7_isKeyword_79 : decode cX7_isKeyword 79 = .ok (.ldc 236, 2) := by decide +kernel
theorem dX7_isKeyword_81 : decode cX7_isKeyword 81 = .ok (.invokevirtual 217, 3) := by decide +kernel
theorem dX7_isKeyword_84 : decode cX7_isKeyword 84 = .ok (.ifCond .ne 30, 3) := by decide +kernel
theorem dX7_isKeyword_87 : decode cX7_isKeyword 87 = .ok (.aload_n 0, 1) := by decide +kernel
theorem dX7_isKeyword_88 : decode cX7_isKeyword 88 = .ok (.ldc 238, 2) := by decide +kernel
theorem dX7_isKeyword_90 : decode cX7_isKeyword 90 = .ok (.invokevirtual 217, 3) := by decide +kernel
theorem dX7_isKeyword_93 : decode cX7_isKeyword 93 = .ok (.ifCond .ne 21, 3) := by decide +kernel
theorem dX7_isKeyword_96 : decode cX7_isKeyword 96 = .ok (.aload_n 0, 1) := by decide +kernel
theorem dX7_isKeyword_97 : decode cX7_isKeyword 97 = .ok (.ldc 240, 2) := by decide +kernel
theorem dX7_isKeyword_99 : decode cX7_isKeyword 99 = .ok (.invokevirtual 217, 3) := by decide +kernel
theorem dX7_isKeyword_102 : decode cX7_isKeyword 102 = .ok (.ifCond .ne 12, 3) := by decide +kernel
theorem dX7_isKeyword_105 : decode cX7_isKeyword 105 = .ok (.aload_n 0, 1) := by decide +kernel
theorem dX7_isKeyword_106 : decode cX7_isKeyword 106 = .ok (.ldc 242, 2) := by decide +kernel
theorem dX7_isKeyword_108 : decode cX7_isKeyword 108 = .ok (.invokevirtual 217, 3) := by decide +kernel
theorem dX7_isKeyword_111 : decode cX7_isKeyword 111 = .ok (.ifCond .eq 7, 3) := by decide +kernel
theorem dX7_isKeyword_114 : decode cX7_isKeyword 114 = .ok (.iconst 1, 1) := by decide +kernel
theorem dX7_isKeyword_115 : decode cX7_isKeyword 115 = .ok (.goto 4, 3) := by decide +kernel
theorem dX7_isKeyword_118 : decode cX7_isKeyword 118 = .ok (.iconst 0, 1) := by decide +kernel
theorem dX7_isKeyword_119 : decode cX7_isKeyword 119 = .ok (.istore_n 2, 1) := by decide +kernel
theorem dX7_isKeyword_120 : decode cX7_isKeyword 120 = .ok (.iload_n 1, 1) := by decide +kernel
theorem dX7_isKeyword_121 : decode cX7_isKeyword 121 = .ok (.ifCond .ne 61, 3) := by decide +kernel
theorem dX7_isKeyword_124 : decode cX7_isKeyword 124 = .ok (.iload_n 2, 1) := by decide +kernel
theorem dX7_isKeyword_125 : decode cX7_isKeyword 125 = .ok (.ifCond .ne 57, 3) := by decide +kernel
theorem dX7_isKeyword_128 : decode cX7_isKeyword 128 = .ok (.aload_n 0, 1) := by decide +kernel
theorem dX7_isKeyword_129 : decode cX7_isKeyword 129 = .ok (.ldc 244, 2) := by decide +kernel
theorem dX7_isKeyword_131 : decode cX7_isKeyword 131 = .ok (.invokevirtual 217, 3) := by decide +kernel
theorem dX7_isKeyword_134 : decode cX7_isKeyword 134 = .ok (.ifCond .ne 48, 3) := by decide +kernel
theorem dX7_isKeyword_137 : decode cX7_isKeyword 137 = .ok (.aload_n 0, 1) := by decide +kernel
theorem dX7_isKeyword_138 : decode cX7_isKeyword 138 = .ok (.ldc 246, 2) := by decide +kernel
theorem dX7_isKeyword_140 : decode cX7_isKeyword 140 = .ok (.invokevirtual 217, 3) := by decide +kernel
theorem dX7_isKeyword_143 : decode cX7_isKeyword 143 = .ok (.ifCond .ne 39, 3) := by decide +kernel
theorem dX7_isKeyword_146 : decode cX7_isKeyword 146 = .ok (.aload_n 0, 1) := by decide +kernel
theorem dX7_isKeyword_147 : decode cX7_isKeyword 147 = .ok (.ldc 248, 2) := by decide +kernel
theorem dX7_isKeyword_149 : decode cX7_isKeyword 149 = .ok (.invokevirtual 217, 3) := by decide +kernel
theorem dX7_isKeyword_152 : decode cX7_isKeyword 152 = .ok (.ifCond .ne 30, 3) := by decide +kernel
theorem dX7_isKeyword_155 : decode cX7_isKeyword 155 = .ok (.aload_n 0, 1) := by decide +kernel
theorem dX7_isKeyword_156 : decode cX7_isKeyword 156 = .ok (.ldc 250, 2) := by decide +kernel
theorem dX7_isKeyword_158 : decode cX7_isKeyword 158 = .ok (.invokevirtual 217, 3) := by decide +kernel
theorem dX7_isKeyword_161 : decode cX7_isKeyword 161 = .ok (.ifCond .ne 21, 3) := by decide +kernel
theorem dX7_isKeyword_164 : decode cX7_isKeyword 164 = .ok (.aload_n 0, 1) := by decide +kernel
theorem dX7_isKeyword_165 : decode cX7_isKeyword 165 = .ok (.ldc 252, 2) := by decide +kernel
theorem dX7_isKeyword_167 : decode cX7_isKeyword 167 = .ok (.invokevirtual 217, 3) := by decide +kernel
theorem dX7_isKeyword_170 : decode cX7_isKeyword 170 = .ok (.ifCond .ne 12, 3) := by decide +kernel
theorem dX7_isKeyword_173 : decode cX7_isKeyword 173 = .ok (.aload_n 0, 1) := by decide +kernel
theorem dX7_isKeyword_174 : decode cX7_isKeyword 174 = .ok (.ldc 254, 2) := by decide +kernel
theorem dX7_isKeyword_176 : decode cX7_isKeyword 176 = .ok (.invokevirtual 217, 3) := by decide +kernel
theorem dX7_isKeyword_179 : decode cX7_isKeyword 179 = .ok (.ifCond .eq 7, 3) := by decide +kernel
theorem dX7_isKeyword_182 : decode cX7_isKeyword 182 = .ok (.iconst 1, 1) := by decide +kernel
theorem dX7_isKeyword_183 : decode cX7_isKeyword 183 = .ok (.goto 4, 3) := by decide +kernel
theorem dX7_isKeyword_186 : decode cX7_isKeyword 186 = .ok (.iconst 0, 1) := by decide +kernel
theorem dX7_isKeyword_187 : decode cX7_isKeyword 187 = .ok (.ireturn, 1) := by decide +kernel
theorem dX7_nameOf_0 : decode cX7_nameOf 0 = .ok (.iconst 0, 1) := by decide +kernel
theorem dX7_nameOf_1 : decode cX7_nameOf 1 = .ok (.istore_n 3, 1) := by decide +kernel
theorem dX7_nameOf_2 : decode cX7_nameOf 2 = .ok (.iload_n 1, 1) := by decide +kernel
theorem dX7_nameOf_3 : decode cX7_nameOf 3 = .ok (.istore 4, 2) := by decide +kernel
theorem dX7_nameOf_5 : decode cX7_nameOf 5 = .ok (.iload 4, 2) := by decide +kernel
theorem dX7_nameOf_7 : decode cX7_nameOf 7 = .ok (.iload_n 2, 1) := by decide +kernel
theorem dX7_nameOf_8 : decode cX7_nameOf 8 = .ok (.if_icmp .ge 22, 3) := by decide +kernel
theorem dX7_nameOf_11 : decode cX7_nameOf 11 = .ok (.bipush 27, 2) := by decide +kernel
theorem dX7_nameOf_13 : decode cX7_nameOf 13 = .ok (.iload_n 3, 1) := by decide +kernel
theorem dX7_nameOf_14 : decode cX7_nameOf 14 = .ok (.imul, 1) := by decide +kernel
theorem dX7_nameOf_15 : decode cX7_nameOf 15 = .ok (.aload_n 0, 1) := by decide +kernel
theorem dX7_nameOf_16 : decode cX7_nameOf 16 = .ok (.iload 4, 2) := by decide +kernel
theorem dX7_nameOf_18 : decode cX7_nameOf 18 = .ok (.baload, 1) := by decide +kernel
theorem dX7_nameOf_19 : decode cX7_nameOf 19 = .ok (.iadd, 1) := by decide +kernel
theorem dX7_nameOf_20 : decode cX7_nameOf 20 = .ok (.bipush 96, 2) := by decide +kernel
theorem dX7_nameOf_22 : decode cX7_nameOf 22 = .ok (.isub, 1) := by decide +kernel
theorem dX7_nameOf_23 : decode cX7_nameOf 23 = .ok (.istore_n 3, 1) := by decide +kernel
theorem dX7_nameOf_24 : decode cX7_nameOf 24 = .ok (.iinc 4 1, 3) := by decide +kernel
theorem dX7_nameOf_27 : decode cX7_nameOf 27 = .ok (.goto (-22), 3) := by decide +kernel
theorem dX7_nameOf_30 : decode cX7_nameOf 30 = .ok (.iload_n 3, 1) := by decide +kernel
theorem dX7_nameOf_31 : decode cX7_nameOf 31 = .ok (.ireturn, 1) := by decide +kernel
theorem dX7_roomNamed_0 : decode cX7_roomNamed 0 = .ok (.iconst 0, 1) := by decide +kernel
theorem dX7_roomNamed_1 : decode cX7_roomNamed 1 = .ok (.istore_n 2, 1) := by decide +kernel
theorem dX7_roomNamed_2 : decode cX7_roomNamed 2 = .ok (.iload_n 2, 1) := by decide +kernel
theorem dX7_roomNamed_3 : decode cX7_roomNamed 3 = .ok (.aload_n 0, 1) := by decide +kernel
theorem dX7_roomNamed_4 : decode cX7_roomNamed 4 = .ok (.invokevirtual 56, 3) := by decide +kernel
theorem dX7_roomNamed_7 : decode cX7_roomNamed 7 = .ok (.if_icmp .ge 26, 3) := by decide +kernel
theorem dX7_roomNamed_10 : decode cX7_roomNamed 10 = .ok (.iload_n 1, 1) := by decide +kernel
theorem dX7_roomNamed_11 : decode cX7_roomNamed 11 = .ok (.ifCond .le 16, 3) := by decide +kernel
theorem dX7_roomNamed_14 : decode cX7_roomNamed 14 = .ok (.aload_n 0, 1) := by decide +kernel
theorem dX7_roomNamed_15 : decode cX7_roomNamed 15 = .ok (.iload_n 2, 1) := by decide +kernel
theorem dX7_roomNamed_16 : decode cX7_roomNamed 16 = .ok (.bipush 11, 2) := by decide +kernel
theorem dX7_roomNamed_18 : decode cX7_roomNamed 18 = .ok (.invokevirtual 68, 3) := by decide +kernel
theorem dX7_roomNamed_21 : decode cX7_roomNamed 21 = .ok (.iload_n 1, 1) := by decide +kernel
theorem dX7_roomNamed_22 : decode cX7_roomNamed 22 = .ok (.if_icmp .ne 5, 3) := by decide +kernel
theorem dX7_roomNamed_25 : decode cX7_roomNamed 25 = .ok (.iload_n 2, 1) := by decide +kernel
theorem dX7_roomNamed_26 : decode cX7_roomNamed 26 = .ok (.ireturn, 1) := by decide +kernel
theorem dX7_roomNamed_27 : decode cX7_roomNamed 27 = .ok (.iinc 2 1, 3) := by decide +kernel
theorem dX7_roomNamed_30 : decode cX7_roomNamed 30 = .ok (.goto (-28), 3) := by decide +kernel
theorem dX7_roomNamed_33 : decode cX7_roomNamed 33 = .ok (.iconst (-1), 1) := by decide +kernel
theorem dX7_roomNamed_34 : decode cX7_roomNamed 34 = .ok (.ireturn, 1) := by decide +kernel
theorem dX7_errsIf_0 : decode cX7_errsIf 0 = .ok (.aload_n 0, 1) := by decide +kernel
theorem dX7_errsIf_1 : decode cX7_errsIf 1 = .ok (.invokevirtual 165, 3) := by decide +kernel
theorem dX7_errsIf_4 : decode cX7_errsIf 4 = .ok (.ifCond .eq 12, 3) := by decide +kernel
theorem dX7_errsIf_7 : decode cX7_errsIf 7 = .ok (.iload_n 1, 1) := by decide +kernel
theorem dX7_errsIf_8 : decode cX7_errsIf 8 = .ok (.ifCond .eq 8, 3) := by decide +kernel
theorem dX7_errsIf_11 : decode cX7_errsIf 11 = .ok (.aload_n 0, 1) := by decide +kernel
theorem dX7_errsIf_12 : decode cX7_errsIf 12 = .ok (.iload_n 2, 1) := by decide +kernel
theorem dX7_errsIf_13 : decode cX7_errsIf 13 = .ok (.invokevirtual 208, 3) := by decide +kernel
theorem dX7_errsIf_16 : decode cX7_errsIf 16 = .ok (.return_, 1) := by decide +kernel
theorem dX7_numberAfter_0 : decode cX7_numberAfter 0 = .ok (.aload_n 0, 1) := by decide +kernel
theorem dX7_numberAfter_1 : decode cX7_numberAfter 1 = .ok (.aload_n 1, 1) := by decide +kernel
theorem dX7_numberAfter_2 : decode cX7_numberAfter 2 = .ok (.invokevirtual 256, 3) := by decide +kernel
theorem dX7_numberAfter_5 : decode cX7_numberAfter 5 = .ok (.aload_n 0, 1) := by decide +kernel
theorem dX7_numberAfter_6 : decode cX7_numberAfter 6 = .ok (.iload_n 2, 1) := by decide +kernel
theorem dX7_numberAfter_7 : decode cX7_numberAfter 7 = .ok (.iload_n 3, 1) := by decide +kernel
theorem dX7_numberAfter_8 : decode cX7_numberAfter 8 = .ok (.invokevirtual 260, 3) := by decide +kernel
theorem dX7_numberAfter_11 : decode cX7_numberAfter 11 = .ok (.ireturn, 1) := by decide +kernel
theorem dX7_numberIf_0 : decode cX7_numberIf 0 = .ok (.aload_n 0, 1) := by decide +kernel
theorem dX7_numberIf_1 : decode cX7_numberIf 1 = .ok (.aload_n 1, 1) := by decide +kernel
theorem dX7_numberIf_2 : decode cX7_numberIf 2 = .ok (.invokevirtual 217, 3) := by decide +kernel
theorem dX7_numberIf_5 : decode cX7_numberIf 5 = .ok (.ifCond .eq 14, 3) := by decide +kernel
theorem dX7_numberIf_8 : decode cX7_numberIf 8 = .ok (.aload_n 0, 1) := by decide +kernel
theorem dX7_numberIf_9 : decode cX7_numberIf 9 = .ok (.aload_n 1, 1) := by decide +kernel
theorem dX7_numberIf_10 : decode cX7_numberIf 10 = .ok (.iload_n 3, 1) := by decide +kernel
theorem dX7_numberIf_11 : decode cX7_numberIf 11 = .ok (.iload 4, 2) := by decide +kernel
theorem dX7_numberIf_13 : decode cX7_numberIf 13 = .ok (.invokevirtual 263, 3) := by decide +kernel
theorem dX7_numberIf_16 : decode cX7_numberIf 16 = .ok (.goto 4, 3) := by decide +kernel
theorem dX7_numberIf_19 : decode cX7_numberIf 19 = .ok (.iload_n 2, 1) := by decide +kernel
theorem dX7_numberIf_20 : decode cX7_numberIf 20 = .ok (.ireturn, 1) := by decide +kernel
theorem dX7_isSign_0 : decode cX7_isSign 0 = .ok (.aload_n 0, 1) := by decide +kernel
theorem dX7_isSign_1 : decode cX7_isSign 1 = .ok (.invokevirtual 165, 3) := by decide +kernel
theorem dX7_isSign_4 : decode cX7_isSign 4 = .ok (.ifCond .eq 23, 3) := by decide +kernel
theorem dX7_isSign_7 : decode cX7_isSign 7 = .ok (.aload_n 0, 1) := by decide +kernel
theorem dX7_isSign_8 : decode cX7_isSign 8 = .ok (.getfield 181, 3) := by decide +kernel
theorem dX7_isSign_11 : decode cX7_isSign 11 = .ok (.iconst 3, 1) := by decide +kernel
theorem dX7_isSign_12 : decode cX7_isSign 12 = .ok (.if_icmp .ne 15, 3) := by decide +kernel
theorem dX7_isSign_15 : decode cX7_isSign 15 = .ok (.aload_n 0, 1) := by decide +kernel
theorem dX7_isSign_16 : decode cX7_isSign 16 = .ok (.getfield 192, 3) := by decide +kernel
theorem dX7_isSign_19 : decode cX7_isSign 19 = .ok (.iload_n 1, 1) := by decide +kernel
theorem dX7_isSign_20 : decode cX7_isSign 20 = .ok (.if_icmp .ne 7, 3) := by decide +kernel
theorem dX7_isSign_23 : decode cX7_isSign 23 = .ok (.iconst 1, 1) := by decide +kernel
theorem dX7_isSign_24 : decode cX7_isSign 24 = .ok (.goto 4, 3) := by decide +kernel
theorem dX7_isSign_27 : decode cX7_isSign 27 = .ok (.iconst 0, 1) := by decide +kernel
theorem dX7_isSign_28 : decode cX7_isSign 28 = .ok (.ireturn, 1) := by decide +kernel
theorem dX7_nameHere_0 : decode cX7_nameHere 0 = .ok (.aload_n 0, 1) := by decide +kernel
theorem dX7_nameHere_1 : decode cX7_nameHere 1 = .ok (.aload_n 0, 1) := by decide +kernel
theorem dX7_nameHere_2 : decode cX7_nameHere 2 = .ok (.invokevirtual 165, 3) := by decide +kernel
theorem dX7_nameHere_5 : decode cX7_nameHere 5 = .ok (.ifCond .eq 36, 3) := by decide +kernel
theorem dX7_nameHere_8 : decode cX7_nameHere 8 = .ok (.aload_n 0, 1) := by decide +kernel
theorem dX7_nameHere_9 : decode cX7_nameHere 9 = .ok (.getfield 181, 3) := by decide +kernel
theorem dX7_nameHere_12 : decode cX7_nameHere 12 = .ok (.iconst 1, 1) := by decide +kernel
theorem dX7_nameHere_13 : decode cX7_nameHere 13 = .ok (.if_icmp .ne 24, 3) := by decide +kernel
theorem dX7_nameHere_16 : decode cX7_nameHere 16 = .ok (.aload_n 0, 1) := by decide +kernel
theorem dX7_nameHere_17 : decode cX7_nameHere 17 = .ok (.getfield 175, 3) := by decide +kernel
theorem dX7_nameHere_20 : decode cX7_nameHere 20 = .ok (.aload_n 0, 1) := by decide +kernel
theorem dX7_nameHere_21 : decode cX7_nameHere 21 = .ok (.getfield 169, 3) := by decide +kernel
theorem dX7_nameHere_24 : decode cX7_nameHere 24 = .ok (.isub, 1) := by decide +kernel
theorem dX7_nameHere_25 : decode cX7_nameHere 25 = .ok (.bipush 6, 2) := by decide +kernel
theorem dX7_nameHere_27 : decode cX7_nameHere 27 = .ok (.if_icmp .gt 10, 3) := by decide +kernel
theorem dX7_nameHere_30 : decode cX7_nameHere 30 = .ok (.aload_n 0, 1) := by decide +kernel
theorem dX7_nameHere_31 : decode cX7_nameHere 31 = .ok (.invokevirtual 267, 3) := by decide +kernel
theorem dX7_nameHere_34 : decode cX7_nameHere 34 = .ok (.ifCond .eq 7, 3) := by decide +kernel
theorem dX7_nameHere_37 : decode cX7_nameHere 37 = .ok (.iconst 1, 1) := by decide +kernel
theorem dX7_nameHere_38 : decode cX7_nameHere 38 = .ok (.goto 4, 3) := by decide +kernel
theorem dX7_nameHere_41 : decode cX7_nameHere 41 = .ok (.iconst 0, 1) := by decide +kernel
theorem dX7_nameHere_42 : decode cX7_nameHere 42 = .ok (.iconst 1, 1) := by decide +kernel
theorem dX7_nameHere_43 : decode cX7_nameHere 43 = .ok (.invokevirtual 270, 3) := by decide +kernel
theorem dX7_nameHere_46 : decode cX7_nameHere 46 = .ok (.aload_n 0, 1) := by decide +kernel
theorem dX7_nameHere_47 : decode cX7_nameHere 47 = .ok (.invokevirtual 165, 3) := by decide +kernel
theorem dX7_nameHere_50 : decode cX7_nameHere 50 = .ok (.ifCond .eq 21, 3) := by decide +kernel
theorem dX7_nameHere_53 : decode cX7_nameHere 53 = .ok (.aload_n 0, 1) := by decide +kernel
theorem dX7_nameHere_54 : decode cX7_nameHere 54 = .ok (.getfield 30, 3) := by decide +kernel
theorem dX7_nameHere_57 : decode cX7_nameHere 57 = .ok (.aload_n 0, 1) := by decide +kernel
theorem dX7_nameHere_58 : decode cX7_nameHere 58 = .ok (.getfield 169, 3) := by decide +kernel
theorem dX7_nameHere_61 : decode cX7_nameHere 61 = .ok (.aload_n 0, 1) := by decide +kernel
theorem dX7_nameHere_62 : decode cX7_nameHere 62 = .ok (.getfield 175, 3) := by decide +kernel
theorem dX7_nameHere_65 : decode cX7_nameHere 65 = .ok (.invokestatic 274, 3) := by decide +kernel
theorem dX7_nameHere_68 : decode cX7_nameHere 68 = .ok (.goto 4, 3) := by decide +kernel
theorem dX7_nameHere_71 : decode cX7_nameHere 71 = .ok (.iconst 0, 1) := by decide +kernel
theorem dX7_nameHere_72 : decode cX7_nameHere 72 = .ok (.ireturn, 1) := by decide +kernel
theorem dX7_roomHere_0 : decode cX7_roomHere 0 = .ok (.aload_n 0, 1) := by decide +kernel
theorem dX7_roomHere_1 : decode cX7_roomHere 1 = .ok (.aload_n 0, 1) := by decide +kernel
theorem dX7_roomHere_2 : decode cX7_roomHere 2 = .ok (.invokevirtual 278, 3) := by decide +kernel
theorem dX7_roomHere_5 : decode cX7_roomHere 5 = .ok (.invokevirtual 281, 3) := by decide +kernel
theorem dX7_roomHere_8 : decode cX7_roomHere 8 = .ok (.istore_n 1, 1) := by decide +kernel
theorem dX7_roomHere_9 : decode cX7_roomHere 9 = .ok (.aload_n 0, 1) := by decide +kernel
theorem dX7_roomHere_10 : decode cX7_roomHere 10 = .ok (.iload_n 1, 1) := by decide +kernel
theorem dX7_roomHere_11 : decode cX7_roomHere 11 = .ok (.iconst (-1), 1) := by decide +kernel
theorem dX7_roomHere_12 : decode cX7_roomHere 12 = .ok (.if_icmp .ne 7, 3) := by decide +kernel
theorem dX7_roomHere_15 : decode cX7_roomHere 15 = .ok (.iconst 1, 1) := by decide +kernel
theorem dX7_roomHere_16 : decode cX7_roomHere 16 = .ok (.goto 4, 3) := by decide +kernel
theorem dX7_roomHere_19 : decode cX7_roomHere 19 = .ok (.iconst 0, 1) := by decide +kernel
theorem dX7_roomHere_20 : decode cX7_roomHere 20 = .ok (.iconst 4, 1) := by decide +kernel
theorem dX7_roomHere_21 : decode cX7_roomHere 21 = .ok (.invokevirtual 270, 3) := by decide +kernel
theorem dX7_roomHere_24 : decode cX7_roomHere 24 = .ok (.iconst 0, 1) := by decide +kernel
theorem dX7_roomHere_25 : decode cX7_roomHere 25 = .ok (.iload_n 1, 1) := by decide +kernel
theorem dX7_roomHere_26 : decode cX7_roomHere 26 = .ok (.invokestatic 150, 3) := by decide +kernel
theorem dX7_roomHere_29 : decode cX7_roomHere 29 = .ok (.ireturn, 1) := by decide +kernel
theorem dX7_once_0 : decode cX7_once 0 = .ok (.aload_n 0, 1) := by decide +kernel
theorem dX7_once_1 : decode cX7_once 1 = .ok (.aload_n 0, 1) := by decide +kernel
theorem dX7_once_2 : decode cX7_once 2 = .ok (.getfield 37, 3) := by decide +kernel
theorem dX7_once_5 : decode cX7_once 5 = .ok (.iload_n 1, 1) := by decide +kernel
theorem dX7_once_6 : decode cX7_once 6 = .ok (.baload, 1) := by decide +kernel
theorem dX7_once_7 : decode cX7_once 7 = .ok (.iconst 3, 1) := by decide +kernel
theorem dX7_once_8 : decode cX7_once 8 = .ok (.invokevirtual 270, 3) := by decide +kernel
theorem dX7_once_11 : decode cX7_once 11 = .ok (.aload_n 0, 1) := by decide +kernel
theorem dX7_once_12 : decode cX7_once 12 = .ok (.getfield 37, 3) := by decide +kernel
theorem dX7_once_15 : decode cX7_once 15 = .ok (.iload_n 1, 1) := by decide +kernel
theorem dX7_once_16 : decode cX7_once 16 = .ok (.iconst 1, 1) := by decide +kernel
theorem dX7_once_17 : decode cX7_once 17 = .ok (.bastore, 1) := by decide +kernel
theorem dX7_once_18 : decode cX7_once 18 = .ok (.aload_n 0, 1) := by decide +kernel
theorem dX7_once_19 : decode cX7_once 19 = .ok (.invokevirtual 214, 3) := by decide +kernel
theorem dX7_once_22 : decode cX7_once 22 = .ok (.return_, 1) := by decide +kernel
theorem dX7_parseOutside_0 : decode cX7_parseOutside 0 = .ok (.aload_n 0, 1) := by decide +kernel
theorem dX7_parseOutside_1 : decode cX7_parseOutside 1 = .ok (.iconst 0, 1) := by decide +kernel
theorem dX7_parseOutside_2 : decode cX7_parseOutside 2 = .ok (.invokevirtual 284, 3) := by decide +kernel
theorem dX7_parseOutside_5 : decode cX7_parseOutside 5 = .ok (.aload_n 0, 1) := by decide +kernel
theorem dX7_parseOutside_6 : decode cX7_parseOutside 6 = .ok (.bipush 45, 2) := by decide +kernel
theorem dX7_parseOutside_8 : decode cX7_parseOutside 8 = .ok (.invokevirtual 287, 3) := by decide +kernel
theorem dX7_parseOutside_11 : decode cX7_parseOutside 11 = .ok (.istore_n 1, 1) := by decide +kernel
theorem dX7_parseOutside_12 : decode cX7_parseOutside 12 = .ok (.iload_n 1, 1) := by decide +kernel
theorem dX7_parseOutside_13 : decode cX7_parseOutside 13 = .ok (.ifCond .eq 7, 3) := by decide +kernel
theorem dX7_parseOutside_16 : decode cX7_parseOutside 16 = .ok (.aload_n 0, 1) := by decide +kernel
theorem dX7_parseOutside_17 : decode cX7_parseOutside 17 = .ok (.invokevirtual 214, 3) := by decide +kernel
theorem dX7_parseOutside_20 : decode cX7_parseOutside 20 = .ok (.aload_n 0, 1) := by decide +kernel
theorem dX7_parseOutside_21 : decode cX7_parseOutside 21 = .ok (.iconst 0, 1) := by decide +kernel
theorem dX7_parseOutside_22 : decode cX7_parseOutside 22 = .ok (.iload_n 1, 1) := by decide +kernel
theorem dX7_parseOutside_23 : decode cX7_parseOutside 23 = .ok (.ifCond .eq 9, 3) := by decide +kernel
theorem dX7_parseOutside_26 : decode cX7_parseOutside 26 = .ok (.sipush 300, 3) := by decide +kernel
theorem dX7_parseOutside_29 : decode cX7_parseOutside 29 = .ok (.goto 6, 3) := by decide +kernel
theorem dX7_parseOutside_32 : decode cX7_parseOutside 32 = .ok (.sipush 400, 3) := by decide +kernel
theorem dX7_parseOutside_35 : decode cX7_parseOutside 35 = .ok (.invokevirtual 260, 3) := by decide +kernel
theorem dX7_parseOutside_38 : decode cX7_parseOutside 38 = .ok (.istore_n 2, 1) := by decide +kernel
theorem dX7_parseOutside_39 : decode cX7_parseOutside 39 = .ok (.aload_n 0, 1) := by decide +kernel
theorem dX7_parseOutside_40 : decode cX7_parseOutside 40 = .ok (.getfield 24, 3) := by decide +kernel
theorem dX7_parseOutside_43 : decode cX7_parseOutside 43 = .ok (.iconst 2, 1) := by decide +kernel
theorem dX7_parseOutside_44 : decode cX7_parseOutside 44 = .ok (.iload_n 1, 1) := by decide +kernel
theorem dX7_parseOutside_45 : decode cX7_parseOutside 45 = .ok (.ifCond .eq 8, 3) := by decide +kernel
theorem dX7_parseOutside_48 : decode cX7_parseOutside 48 = .ok (.iload_n 2, 1) := by decide +kernel
theorem dX7_parseOutside_49 : decode cX7_parseOutside 49 = .ok (.ineg, 1) := by decide +kernel
theorem dX7_parseOutside_50 : decode cX7_parseOutside 50 = .ok (.goto 4, 3) := by decide +kernel
theorem dX7_parseOutside_53 : decode cX7_parseOutside 53 = .ok (.iload_n 2, 1) := by decide +kernel
theorem dX7_parseOutside_54 : decode cX7_parseOutside 54 = .ok (.iastore, 1) := by decide +kernel
theorem dX7_parseOutside_55 : decode cX7_parseOutside 55 = .ok (.aload_n 0, 1) := by decide +kernel
theorem dX7_parseOutside_56 : decode cX7_parseOutside 56 = .ok (.invokevirtual 290, 3) := by decide +kernel
theorem dX7_parseOutside_59 : decode cX7_parseOutside 59 = .ok (.return_, 1) := by decide +kernel
theorem dX7_parseWindow_0 : decode cX7_parseWindow 0 = .ok (.aload_n 0, 1) := by decide +kernel
theorem dX7_parseWindow_1 : decode cX7_parseWindow 1 = .ok (.iconst 1, 1) := by decide +kernel
theorem dX7_parseWindow_2 : decode cX7_parseWindow 2 = .ok (.invokevirtual 284, 3) := by decide +kernel
theorem dX7_parseWindow_5 : decode cX7_parseWindow 5 = .ok (.aload_n 0, 1) := by decide +kernel
theorem dX7_parseWindow_6 : decode cX7_parseWindow 6 = .ok (.getfield 24, 3) := by decide +kernel
theorem dX7_parseWindow_9 : decode cX7_parseWindow 9 = .ok (.iconst 4, 1) := by decide +kernel
theorem dX7_parseWindow_10 : decode cX7_parseWindow 10 = .ok (.aload_n 0, 1) := by decide +kernel
theorem dX7_parseWindow_11 : decode cX7_parseWindow 11 = .ok (.iconst 1, 1) := by decide +kernel
theorem dX7_parseWindow_12 : decode cX7_parseWindow 12 = .ok (.bipush 99, 2) := by decide +kernel
theorem dX7_parseWindow_14 : decode cX7_parseWindow 14 = .ok (.invokevirtual 260, 3) := by decide +kernel
theorem dX7_parseWindow_17 : decode cX7_parseWindow 17 = .ok (.iastore, 1) := by decide +kernel
theorem dX7_parseWindow_18 : decode cX7_parseWindow 18 = .ok (.aload_n 0, 1) := by decide +kernel
theorem dX7_parseWindow_19 : decode cX7_parseWindow 19 = .ok (.getfield 24, 3) := by decide +kernel
theorem dX7_parseWindow_22 : decode cX7_parseWindow 22 = .ok (.iconst 5, 1) := by decide +kernel
theorem dX7_parseWindow_23 : decode cX7_parseWindow 23 = .ok (.aload_n 0, 1) := by decide +kernel
theorem dX7_parseWindow_24 : decode cX7_parseWindow 24 = .ok (.ldc 225, 2) := by decide +kernel
theorem dX7_parseWindow_26 : decode cX7_parseWindow 26 = .ok (.iconst 1, 1) := by decide +kernel
theorem dX7_parseWindow_27 : decode cX7_parseWindow 27 = .ok (.bipush 48, 2) := by decide +kernel
theorem dX7_parseWindow_29 : decode cX7_parseWindow 29 = .ok (.invokevirtual 263, 3) := by decide +kernel
theorem dX7_parseWindow_32 : decode cX7_parseWindow 32 = .ok (.iastore, 1) := by decide +kernel
theorem dX7_parseWindow_33 : decode cX7_parseWindow 33 = .ok (.aload_n 0, 1) := by decide +kernel
theorem dX7_parseWindow_34 : decode cX7_parseWindow 34 = .ok (.invokevirtual 290, 3) := by decide +kernel
theorem dX7_parseWindow_37 : decode cX7_parseWindow 37 = .ok (.return_, 1) := by decide +kernel
theorem dX7_parseBack_0 : decode cX7_parseBack 0 = .ok (.aload_n 0, 1) := by decide +kernel
theorem dX7_parseBack_1 : decode cX7_parseBack 1 = .ok (.iconst 2, 1) := by decide +kernel
theorem dX7_parseBack_2 : decode cX7_parseBack 2 = .ok (.invokevirtual 284, 3) := by decide +kernel
theorem dX7_parseBack_5 : decode cX7_parseBack 5 = .ok (.aload_n 0, 1) := by decide +kernel
theorem dX7_parseBack_6 : decode cX7_parseBack 6 = .ok (.getfield 24, 3) := by decide +kernel
theorem dX7_parseBack_9 : decode cX7_parseBack 9 = .ok (.bipush 6, 2) := by decide +kernel
theorem dX7_parseBack_11 : decode cX7_parseBack 11 = .ok (.aload_n 0, 1) := by decide +kernel
theorem dX7_parseBack_12 : decode cX7_parseBack 12 = .ok (.iconst 0, 1) := by decide +kernel
theorem dX7_parseBack_13 : decode cX7_parseBack 13 = .ok (.sipush 150, 3) := by decide +kernel
theorem dX7_parseBack_16 : decode cX7_parseBack 16 = .ok (.invokevirtual 260, 3) := by decide +kernel
theorem dX7_parseBack_19 : decode cX7_parseBack 19 = .ok (.iastore, 1) := by decide +kernel
theorem dX7_parseBack_20 : decode cX7_parseBack 20 = .ok (.aload_n 0, 1) := by decide +kernel
theorem dX7_parseBack_21 : decode cX7_parseBack 21 = .ok (.invokevirtual 290, 3) := by decide +kernel
theorem dX7_parseBack_24 : decode cX7_parseBack 24 = .ok (.return_, 1) := by decide +kernel
theorem dX7_parseControl_0 : decode cX7_parseControl 0 = .ok (.aload_n 0, 1) := by decide +kernel
theorem dX7_parseControl_1 : decode cX7_parseControl 1 = .ok (.iconst 3, 1) := by decide +kernel
theorem dX7_parseControl_2 : decode cX7_parseControl 2 = .ok (.invokevirtual 284, 3) := by decide +kernel
theorem dX7_parseControl_5 : decode cX7_parseControl 5 = .ok (.aload_n 0, 1) := by decide +kernel
theorem dX7_parseControl_6 : decode cX7_parseControl 6 = .ok (.getfield 24, 3) := by decide +kernel
theorem dX7_parseControl_9 : decode cX7_parseControl 9 = .ok (.bipush 7, 2) := by decide +kernel
theorem dX7_parseControl_11 : decode cX7_parseControl 11 = .ok (.aload_n 0, 1) := by decide +kernel
theorem dX7_parseControl_12 : decode cX7_parseControl 12 = .ok (.iconst 0, 1) := by decide +kernel
theorem dX7_parseControl_13 : decode cX7_parseControl 13 = .ok (.bipush 50, 2) := by decide +kernel
theorem dX7_parseControl_15 : decode cX7_parseControl 15 = .ok (.invokevirtual 260, 3) := by decide +kernel
theorem dX7_parseControl_18 : decode cX7_parseControl 18 = .ok (.iastore, 1) := by decide +kernel
theorem dX7_parseControl_19 : decode cX7_parseControl 19 = .ok (.aload_n 0, 1) := by decide +kernel
theorem dX7_parseControl_20 : decode cX7_parseControl 20 = .ok (.getfield 24, 3) := by decide +kernel
theorem dX7_parseControl_23 : decode cX7_parseControl 23 = .ok (.bipush 8, 2) := by decide +kernel
theorem dX7_parseControl_25 : decode cX7_parseControl 25 = .ok (.aload_n 0, 1) := by decide +kernel
theorem dX7_parseControl_26 : decode cX7_parseControl 26 = .ok (.iconst 1, 1) := by decide +kernel
theorem dX7_parseControl_27 : decode cX7_parseControl 27 = .ok (.bipush 50, 2) := by decide +kernel
theorem dX7_parseControl_29 : decode cX7_parseControl 29 = .ok (.invokevirtual 260, 3) := by decide +kernel
theorem dX7_parseControl_32 : decode cX7_parseControl 32 = .ok (.iastore, 1) := by decide +kernel
theorem dX7_parseControl_33 : decode cX7_parseControl 33 = .ok (.aload_n 0, 1) := by decide +kernel
theorem dX7_parseControl_34 : decode cX7_parseControl 34 = .ok (.getfield 24, 3) := by decide +kernel
theorem dX7_parseControl_37 : decode cX7_parseControl 37 = .ok (.bipush 9, 2) := by decide +kernel
theorem dX7_parseControl_39 : decode cX7_parseControl 39 = .ok (.aload_n 0, 1) := by decide +kernel
theorem dX7_parseControl_40 : decode cX7_parseControl 40 = .ok (.iconst 1, 1) := by decide +kernel
theorem dX7_parseControl_41 : decode cX7_parseControl 41 = .ok (.bipush 100, 2) := by decide +kernel
theorem dX7_parseControl_43 : decode cX7_parseControl 43 = .ok (.invokevirtual 260, 3) := by decide +kernel
theorem dX7_parseControl_46 : decode cX7_parseControl 46 = .ok (.iastore, 1) := by decide +kernel
theorem dX7_parseControl_47 : decode cX7_parseControl 47 = .ok (.aload_n 0, 1) := by decide +kernel
theorem dX7_parseControl_48 : decode cX7_parseControl 48 = .ok (.invokevirtual 290, 3) := by decide +kernel
theorem dX7_parseControl_51 : decode cX7_parseControl 51 = .ok (.return_, 1) := by decide +kernel
theorem dX7_parseExercise_0 : decode cX7_parseExercise 0 = .ok (.aload_n 0, 1) := by decide +kernel
theorem dX7_parseExercise_1 : decode cX7_parseExercise 1 = .ok (.iconst 4, 1) := by decide +kernel
theorem dX7_parseExercise_2 : decode cX7_parseExercise 2 = .ok (.invokevirtual 284, 3) := by decide +kernel
theorem dX7_parseExercise_5 : decode cX7_parseExercise 5 = .ok (.aload_n 0, 1) := by decide +kernel
theorem dX7_parseExercise_6 : decode cX7_parseExercise 6 = .ok (.getfield 24, 3) := by decide +kernel
theorem dX7_parseExercise_9 : decode cX7_parseExercise 9 = .ok (.bipush 10, 2) := by decide +kernel
theorem dX7_parseExercise_11 : decode cX7_parseExercise 11 = .ok (.aload_n 0, 1) := by decide +kernel
theorem dX7_parseExercise_12 : decode cX7_parseExercise 12 = .ok (.iconst 0, 1) := by decide +kernel
theorem dX7_parseExercise_13 : decode cX7_parseExercise 13 = .ok (.sipush 335, 3) := by decide +kernel
theorem dX7_parseExercise_16 : decode cX7_parseExercise 16 = .ok (.invokevirtual 260, 3) := by decide +kernel
theorem dX7_parseExercise_19 : decode cX7_parseExercise 19 = .ok (.iastore, 1) := by decide +kernel
theorem dX7_parseExercise_20 : decode cX7_parseExercise 20 = .ok (.aload_n 0, 1) := by decide +kernel
theorem dX7_parseExercise_21 : decode cX7_parseExercise 21 = .ok (.invokevirtual 290, 3) := by decide +kernel
theorem dX7_parseExercise_24 : decode cX7_parseExercise 24 = .ok (.return_, 1) := by decide +kernel
theorem dX7_parseRoom_0 : decode cX7_parseRoom 0 = .ok (.aload_n 0, 1) := by decide +kernel
theorem dX7_parseRoom_1 : decode cX7_parseRoom 1 = .ok (.aload_n 0, 1) := by decide +kernel
theorem dX7_parseRoom_2 : decode cX7_parseRoom 2 = .ok (.invokevirtual 56, 3) := by decide +kernel
theorem dX7_parseRoom_5 : decode cX7_parseRoom 5 = .ok (.bipush 6, 2) := by decide +kernel
theorem dX7_parseRoom_7 : decode cX7_parseRoom 7 = .ok (.if_icmp .ne 7, 3) := by decide +kernel
theorem dX7_parseRoom_10 : decode cX7_parseRoom 10 = .ok (.iconst 1, 1) := by decide +kernel
theorem dX7_parseRoom_11 : decode cX7_parseRoom 11 = .ok (.goto 4, 3) := by decide +kernel
theorem dX7_parseRoom_14 : decode cX7_parseRoom 14 = .ok (.iconst 0, 1) := by decide +kernel
theorem dX7_parseRoom_15 : decode cX7_parseRoom 15 = .ok (.iconst 5, 1) := by decide +kernel
theorem dX7_parseRoom_16 : decode cX7_parseRoom 16 = .ok (.invokevirtual 270, 3) := by decide +kernel
theorem dX7_parseRoom_19 : decode cX7_parseRoom 19 = .ok (.aload_n 0, 1) := by decide +kernel
theorem dX7_parseRoom_20 : decode cX7_parseRoom 20 = .ok (.invokevirtual 214, 3) := by decide +kernel
theorem dX7_parseRoom_23 : decode cX7_parseRoom 23 = .ok (.aload_n 0, 1) := by decide +kernel
theorem dX7_parseRoom_24 : decode cX7_parseRoom 24 = .ok (.invokevirtual 278, 3) := by decide +kernel
theorem dX7_parseRoom_27 : decode cX7_parseRoom 27 = .ok (.istore_n 1, 1) := by decide +kernel
theorem dX7_parseRoom_28 : decode cX7_parseRoom 28 = .ok (.aload_n 0, 1) := by decide +kernel
theorem dX7_parseRoom_29 : decode cX7_parseRoom 29 = .ok (.aload_n 0, 1) := by decide +kernel
theorem dX7_parseRoom_30 : decode cX7_parseRoom 30 = .ok (.iload_n 1, 1) := by decide +kernel
theorem dX7_parseRoom_31 : decode cX7_parseRoom 31 = .ok (.invokevirtual 281, 3) := by decide +kernel
theorem dX7_parseRoom_34 : decode cX7_parseRoom 34 = .ok (.iconst (-1), 1) := by decide +kernel
theorem dX7_parseRoom_35 : decode cX7_parseRoom 35 = .ok (.if_icmp .eq 7, 3) := by decide +kernel
theorem dX7_parseRoom_38 : decode cX7_parseRoom 38 = .ok (.iconst 1, 1) := by decide +kernel
theorem dX7_parseRoom_39 : decode cX7_parseRoom 39 = .ok (.goto 4, 3) := by decide +kernel
theorem dX7_parseRoom_42 : decode cX7_parseRoom 42 = .ok (.iconst 0, 1) := by decide +kernel
theorem dX7_parseRoom_43 : decode cX7_parseRoom 43 = .ok (.iconst 3, 1) := by decide +kernel
theorem dX7_parseRoom_44 : decode cX7_parseRoom 44 = .ok (.invokevirtual 270, 3) := by decide +kernel
theorem dX7_parseRoom_47 : decode cX7_parseRoom 47 = .ok (.aload_n 0, 1) := by decide +kernel
theorem dX7_parseRoom_48 : decode cX7_parseRoom 48 = .ok (.invokevirtual 214, 3) := by decide +kernel
theorem dX7_parseRoom_51 : decode cX7_parseRoom 51 = .ok (.aload_n 0, 1) := by decide +kernel
theorem dX7_parseRoom_52 : decode cX7_parseRoom 52 = .ok (.ldc 234, 2) := by decide +kernel
theorem dX7_parseRoom_54 : decode cX7_parseRoom 54 = .ok (.iconst 0, 1) := by decide +kernel
theorem dX7_parseRoom_55 : decode cX7_parseRoom 55 = .ok (.sipush 400, 3) := by decide +kernel
theorem dX7_parseRoom_58 : decode cX7_parseRoom 58 = .ok (.invokevirtual 263, 3) := by decide +kernel
theorem dX7_parseRoom_61 : decode cX7_parseRoom 61 = .ok (.istore_n 2, 1) := by decide +kernel
theorem dX7_parseRoom_62 : decode cX7_parseRoom 62 = .ok (.aload_n 0, 1) := by decide +kernel
theorem dX7_parseRoom_63 : decode cX7_parseRoom 63 = .ok (.ldc 236, 2) := by decide +kernel
theorem dX7_parseRoom_65 : decode cX7_parseRoom 65 = .ok (.bipush 10, 2) := by decide +kernel
theorem dX7_parseRoom_67 : decode cX7_parseRoom 67 = .ok (.iconst 1, 1) := by decide +kernel
theorem dX7_parseRoom_68 : decode cX7_parseRoom 68 = .ok (.bipush 50, 2) := by decide +kernel
theorem dX7_parseRoom_70 : decode cX7_parseRoom 70 = .ok (.invokevirtual 293, 3) := by decide +kernel
theorem dX7_parseRoom_73 : decode cX7_parseRoom 73 = .ok (.istore_n 3, 1) := by decide +kernel
theorem dX7_parseRoom_74 : decode cX7_parseRoom 74 = .ok (.aload_n 0, 1) := by decide +kernel
theorem dX7_parseRoom_75 : decode cX7_parseRoom 75 = .ok (.ldc 238, 2) := by decide +kernel
theorem dX7_parseRoom_77 : decode cX7_parseRoom 77 = .ok (.iconst 4, 1) := by decide +kernel
theorem dX7_parseRoom_78 : decode cX7_parseRoom 78 = .ok (.iconst 0, 1) := by decide +kernel
theorem dX7_parseRoom_79 : decode cX7_parseRoom 79 = .ok (.bipush 50, 2) := by decide +kernel
theorem dX7_parseRoom_81 : decode cX7_parseRoom 81 = .ok (.invokevirtual 293, 3) := by decide +kernel
theorem dX7_parseRoom_84 : decode cX7_parseRoom 84 = .ok (.istore 4, 2) := by decide +kernel
theorem dX7_parseRoom_86 : decode cX7_parseRoom 86 = .ok (.aload_n 0, 1) := by decide +kernel
theorem dX7_parseRoom_87 : decode cX7_parseRoom 87 = .ok (.ldc 240, 2) := by decide +kernel
theorem dX7_parseRoom_89 : decode cX7_parseRoom 89 = .ok (.iconst 0, 1) := by decide +kernel
theorem dX7_parseRoom_90 : decode cX7_parseRoom 90 = .ok (.iconst 0, 1) := by decide +kernel
theorem dX7_parseRoom_91 : decode cX7_parseRoom 91 = .ok (.bipush 100, 2) := by decide +kernel
theorem dX7_parseRoom_93 : decode cX7_parseRoom 93 = .ok (.invokevirtual 293, 3) := by decide +kernel
theorem dX7_parseRoom_96 : decode cX7_parseRoom 96 = .ok (.istore 5, 2) := by decide +kernel
theorem dX7_parseRoom_98 : decode cX7_parseRoom 98 = .ok (.aload_n 0, 1) := by decide +kernel
theorem dX7_parseRoom_99 : decode cX7_parseRoom 99 = .ok (.ldc 242, 2) := by decide +kernel
theorem dX7_parseRoom_101 : decode cX7_parseRoom 101 = .ok (.sipush 1000, 3) := by decide +kernel
theorem dX7_parseRoom_104 : decode cX7_parseRoom 104 = .ok (.iconst 0, 1) := by decide +kernel
theorem dX7_parseRoom_105 : decode cX7_parseRoom 105 = .ok (.sipush 9999, 3) := by decide +kernel
theorem dX7_parseRoom_108 : decode cX7_parseRoom 108 = .ok (.invokevirtual 293, 3) := by decide +kernel
theorem dX7_parseRoom_111 : decode cX7_parseRoom 111 = .ok (.istore 6, 2) := by decide +kernel
theorem dX7_parseRoom_113 : decode cX7_parseRoom 113 = .ok (.aload_n 0, 1) := by decide +kernel
theorem dX7_parseRoom_114 : decode cX7_parseRoom 114 = .ok (.invokevirtual 290, 3) := by decide +kernel
theorem dX7_parseRoom_117 : decode cX7_parseRoom 117 = .ok (.aload_n 0, 1) := by decide +kernel
theorem dX7_parseRoom_118 : decode cX7_parseRoom 118 = .ok (.invokevirtual 165, 3) := by decide +kernel
theorem dX7_parseRoom_121 : decode cX7_parseRoom 121 = .ok (.ifCond .ne 4, 3) := by decide +kernel
theorem dX7_parseRoom_124 : decode cX7_parseRoom 124 = .ok (.return_, 1) := by decide +kernel
theorem dX7_parseRoom_125 : decode cX7_parseRoom 125 = .ok (.aload_n 0, 1) := by decide +kernel
theorem dX7_parseRoom_126 : decode cX7_parseRoom 126 = .ok (.invokevirtual 56, 3) := by decide +kernel
theorem dX7_parseRoom_129 : decode cX7_parseRoom 129 = .ok (.istore 7, 2) := by decide +kernel
theorem dX7_parseRoom_131 : decode cX7_parseRoom 131 = .ok (.aload_n 0, 1) := by decide +kernel
theorem dX7_parseRoom_132 : decode cX7_parseRoom 132 = .ok (.getfield 24, 3) := by decide +kernel
theorem dX7_parseRoom_135 : decode cX7_parseRoom 135 = .ok (.iconst 0, 1) := by decide +kernel
theorem dX7_parseRoom_136 : decode cX7_parseRoom 136 = .ok (.dup2, 1) := by decide +kernel
theorem dX7_parseRoom_137 : decode cX7_parseRoom 137 = .ok (.iaload, 1) := by decide +kernel
theorem dX7_parseRoom_138 : decode cX7_parseRoom 138 = .ok (.iconst 1, 1) := by decide +kernel
theorem dX7_parseRoom_139 : decode cX7_parseRoom 139 = .ok (.iadd, 1) := by decide +kernel
theorem dX7_parseRoom_140 : decode cX7_parseRoom 140 = .ok (.iastore, 1) := by decide +kernel
theorem dX7_parseRoom_141 : decode cX7_parseRoom 141 = .ok (.aload_n 0, 1) := by decide +kernel
theorem dX7_parseRoom_142 : decode cX7_parseRoom 142 = .ok (.iload 7, 2) := by decide +kernel
theorem dX7_parseRoom_144 : decode cX7_parseRoom 144 = .ok (.bipush 11, 2) := by decide +kernel
theorem dX7_parseRoom_146 : decode cX7_parseRoom 146 = .ok (.iload_n 1, 1) := by decide +kernel
theorem dX7_parseRoom_147 : decode cX7_parseRoom 147 = .ok (.invokevirtual 105, 3) := by decide +kernel
theorem dX7_parseRoom_150 : decode cX7_parseRoom 150 = .ok (.aload_n 0, 1) := by decide +kernel
theorem dX7_parseRoom_151 : decode cX7_parseRoom 151 = .ok (.iload 7, 2) := by decide +kernel
theorem dX7_parseRoom_153 : decode cX7_parseRoom 153 = .ok (.iconst 0, 1) := by decide +kernel
theorem dX7_parseRoom_154 : decode cX7_parseRoom 154 = .ok (.iload_n 2, 1) := by decide +kernel
theorem dX7_parseRoom_155 : decode cX7_parseRoom 155 = .ok (.invokevirtual 105, 3) := by decide +kernel
theorem dX7_parseRoom_158 : decode cX7_parseRoom 158 = .ok (.aload_n 0, 1) := by decide +kernel
theorem dX7_parseRoom_159 : decode cX7_parseRoom 159 = .ok (.iload 7, 2) := by decide +kernel
theorem dX7_parseRoom_161 : decode cX7_parseRoom 161 = .ok (.iconst 3, 1) := by decide +kernel
theorem dX7_parseRoom_162 : decode cX7_parseRoom 162 = .ok (.iload_n 3, 1) := by decide +kernel
theorem dX7_parseRoom_163 : decode cX7_parseRoom 163 = .ok (.invokevirtual 105, 3) := by decide +kernel
theorem dX7_parseRoom_166 : decode cX7_parseRoom 166 = .ok (.aload_n 0, 1) := by decide +kernel
theorem dX7_parseRoom_167 : decode cX7_parseRoom 167 = .ok (.iload 7, 2) := by decide +kernel
theorem dX7_parseRoom_169 : decode cX7_parseRoom 169 = .ok (.iconst 4, 1) := by decide +kernel
theorem dX7_parseRoom_170 : decode cX7_parseRoom 170 = .ok (.iload 4, 2) := by decide +kernel
theorem dX7_parseRoom_172 : decode cX7_parseRoom 172 = .ok (.invokevirtual 105, 3) := by decide +kernel
theorem dX7_parseRoom_175 : decode cX7_parseRoom 175 = .ok (.aload_n 0, 1) := by decide +kernel
theorem dX7_parseRoom_176 : decode cX7_parseRoom 176 = .ok (.iload 7, 2) := by decide +kernel
theorem dX7_parseRoom_178 : decode cX7_parseRoom 178 = .ok (.iconst 1, 1) := by decide +kernel
theorem dX7_parseRoom_179 : decode cX7_parseRoom 179 = .ok (.iload 5, 2) := by decide +kernel
theorem dX7_parseRoom_181 : decode cX7_parseRoom 181 = .ok (.invokevirtual 105, 3) := by decide +kernel
theorem dX7_parseRoom_184 : decode cX7_parseRoom 184 = .ok (.aload_n 0, 1) := by decide +kernel
theorem dX7_parseRoom_185 : decode cX7_parseRoom 185 = .ok (.iload 7, 2) := by decide +kernel
theorem dX7_parseRoom_187 : decode cX7_parseRoom 187 = .ok (.iconst 2, 1) := by decide +kernel
theorem dX7_parseRoom_188 : decode cX7_parseRoom 188 = .ok (.iload 6, 2) := by decide +kernel
theorem dX7_parseRoom_190 : decode cX7_parseRoom 190 = .ok (.invokevirtual 105, 3) := by decide +kernel
theorem dX7_parseRoom_193 : decode cX7_parseRoom 193 = .ok (.aload_n 0, 1) := by decide +kernel
theorem dX7_parseRoom_194 : decode cX7_parseRoom 194 = .ok (.iload 7, 2) := by decide +kernel
theorem dX7_parseRoom_196 : decode cX7_parseRoom 196 = .ok (.bipush 6, 2) := by decide +kernel
theorem dX7_parseRoom_198 : decode cX7_parseRoom 198 = .ok (.iconst 1, 1) := by decide +kernel
theorem dX7_parseRoom_199 : decode cX7_parseRoom 199 = .ok (.invokevirtual 105, 3) := by decide +kernel
theorem dX7_parseRoom_202 : decode cX7_parseRoom 202 = .ok (.return_, 1) := by decide +kernel
theorem dX7_parseEntry_0 : decode cX7_parseEntry 0 = .ok (.aload_n 0, 1) := by decide +kernel
theorem dX7_parseEntry_1 : decode cX7_parseEntry 1 = .ok (.invokevirtual 214, 3) := by decide +kernel
theorem dX7_parseEntry_4 : decode cX7_parseEntry 4 = .ok (.aload_n 0, 1) := by decide +kernel
theorem dX7_parseEntry_5 : decode cX7_parseEntry 5 = .ok (.iconst 0, 1) := by decide +kernel
theorem dX7_parseEntry_6 : decode cX7_parseEntry 6 = .ok (.bipush 47, 2) := by decide +kernel
theorem dX7_parseEntry_8 : decode cX7_parseEntry 8 = .ok (.invokevirtual 211, 3) := by decide +kernel
theorem dX7_parseEntry_11 : decode cX7_parseEntry 11 = .ok (.istore_n 2, 1) := by decide +kernel
theorem dX7_parseEntry_12 : decode cX7_parseEntry 12 = .ok (.aload_n 0, 1) := by decide +kernel
theorem dX7_parseEntry_13 : decode cX7_parseEntry 13 = .ok (.aload_n 0, 1) := by decide +kernel
theorem dX7_parseEntry_14 : decode cX7_parseEntry 14 = .ok (.iload_n 1, 1) := by decide +kernel
theorem dX7_parseEntry_15 : decode cX7_parseEntry 15 = .ok (.iload_n 2, 1) := by decide +kernel
theorem dX7_parseEntry_16 : decode cX7_parseEntry 16 = .ok (.invokevirtual 72, 3) := by decide +kernel
theorem dX7_parseEntry_19 : decode cX7_parseEntry 19 = .ok (.ifCond .le 7, 3) := by decide +kernel
theorem dX7_parseEntry_22 : decode cX7_parseEntry 22 = .ok (.iconst 1, 1) := by decide +kernel
theorem dX7_parseEntry_23 : decode cX7_parseEntry 23 = .ok (.goto 4, 3) := by decide +kernel
theorem dX7_parseEntry_26 : decode cX7_parseEntry 26 = .ok (.iconst 0, 1) := by decide +kernel
theorem dX7_parseEntry_27 : decode cX7_parseEntry 27 = .ok (.iconst 3, 1) := by decide +kernel
theorem dX7_parseEntry_28 : decode cX7_parseEntry 28 = .ok (.invokevirtual 270, 3) := by decide +kernel
theorem dX7_parseEntry_31 : decode cX7_parseEntry 31 = .ok (.aload_n 0, 1) := by decide +kernel
theorem dX7_parseEntry_32 : decode cX7_parseEntry 32 = .ok (.invokevirtual 214, 3) := by decide +kernel
theorem dX7_parseEntry_35 : decode cX7_parseEntry 35 = .ok (.aload_n 0, 1) := by decide +kernel
theorem dX7_parseEntry_36 : decode cX7_parseEntry 36 = .ok (.aload_n 0, 1) := by decide +kernel
theorem dX7_parseEntry_37 : decode cX7_parseEntry 37 = .ok (.bipush 58, 2) := by decide +kernel
theorem dX7_parseEntry_39 : decode cX7_parseEntry 39 = .ok (.invokevirtual 287, 3) := by decide +kernel
theorem dX7_parseEntry_42 : decode cX7_parseEntry 42 = .ok (.ifCond .ne 7, 3) := by decide +kernel
theorem dX7_parseEntry_45 : decode cX7_parseEntry 45 = .ok (.iconst 1, 1) := by decide +kernel
theorem dX7_parseEntry_46 : decode cX7_parseEntry 46 = .ok (.goto 4, 3) := by decide +kernel
theorem dX7_parseEntry_49 : decode cX7_parseEntry 49 = .ok (.iconst 0, 1) := by decide +kernel
theorem dX7_parseEntry_50 : decode cX7_parseEntry 50 = .ok (.iconst 1, 1) := by decide +kernel
theorem dX7_parseEntry_51 : decode cX7_parseEntry 51 = .ok (.invokevirtual 270, 3) := by decide +kernel
theorem dX7_parseEntry_54 : decode cX7_parseEntry 54 = .ok (.aload_n 0, 1) := by decide +kernel
theorem dX7_parseEntry_55 : decode cX7_parseEntry 55 = .ok (.invokevirtual 214, 3) := by decide +kernel
theorem dX7_parseEntry_58 : decode cX7_parseEntry 58 = .ok (.aload_n 0, 1) := by decide +kernel
theorem dX7_parseEntry_59 : decode cX7_parseEntry 59 = .ok (.iload_n 1, 1) := by decide +kernel
theorem dX7_parseEntry_60 : decode cX7_parseEntry 60 = .ok (.bipush 18, 2) := by decide +kernel
theorem dX7_parseEntry_62 : decode cX7_parseEntry 62 = .ok (.iload_n 2, 1) := by decide +kernel
theorem dX7_parseEntry_63 : decode cX7_parseEntry 63 = .ok (.iadd, 1) := by decide +kernel
theorem dX7_parseEntry_64 : decode cX7_parseEntry 64 = .ok (.aload_n 0, 1) := by decide +kernel
theorem dX7_parseEntry_65 : decode cX7_parseEntry 65 = .ok (.bipush 50, 2) := by decide +kernel
theorem dX7_parseEntry_67 : decode cX7_parseEntry 67 = .ok (.sipush 300, 3) := by decide +kernel
theorem dX7_parseEntry_70 : decode cX7_parseEntry 70 = .ok (.invokevirtual 260, 3) := by decide +kernel
theorem dX7_parseEntry_73 : decode cX7_parseEntry 73 = .ok (.invokevirtual 105, 3) := by decide +kernel
theorem dX7_parseEntry_76 : decode cX7_parseEntry 76 = .ok (.return_, 1) := by decide +kernel
theorem dX7_parseProgram_0 : decode cX7_parseProgram 0 = .ok (.aload_n 0, 1) := by decide +kernel
theorem dX7_parseProgram_1 : decode cX7_parseProgram 1 = .ok (.invokevirtual 214, 3) := by decide +kernel
theorem dX7_parseProgram_4 : decode cX7_parseProgram 4 = .ok (.aload_n 0, 1) := by decide +kernel
theorem dX7_parseProgram_5 : decode cX7_parseProgram 5 = .ok (.invokevirtual 297, 3) := by decide +kernel
theorem dX7_parseProgram_8 : decode cX7_parseProgram 8 = .ok (.istore_n 1, 1) := by decide +kernel
theorem dX7_parseProgram_9 : decode cX7_parseProgram 9 = .ok (.aload_n 0, 1) := by decide +kernel
theorem dX7_parseProgram_10 : decode cX7_parseProgram 10 = .ok (.aload_n 0, 1) := by decide +kernel
theorem dX7_parseProgram_11 : decode cX7_parseProgram 11 = .ok (.invokevirtual 165, 3) := by decide +kernel
theorem dX7_parseProgram_14 : decode cX7_parseProgram 14 = .ok (.ifCond .eq 15, 3) := by decide +kernel
theorem dX7_parseProgram_17 : decode cX7_parseProgram 17 = .ok (.aload_n 0, 1) := by decide +kernel
theorem dX7_parseProgram_18 : decode cX7_parseProgram 18 = .ok (.iload_n 1, 1) := by decide +kernel
theorem dX7_parseProgram_19 : decode cX7_parseProgram 19 = .ok (.invokevirtual 300, 3) := by decide +kernel
theorem dX7_parseProgram_22 : decode cX7_parseProgram 22 = .ok (.ifCond .le 7, 3) := by decide +kernel
theorem dX7_parseProgram_25 : decode cX7_parseProgram 25 = .ok (.iconst 1, 1) := by decide +kernel
theorem dX7_parseProgram_26 : decode cX7_parseProgram 26 = .ok (.goto 4, 3) := by decide +kernel
theorem dX7_parseProgram_29 : decode cX7_parseProgram 29 = .ok (.iconst 0, 1) := by decide +kernel
theorem dX7_parseProgram_30 : decode cX7_parseProgram 30 = .ok (.iconst 3, 1) := by decide +kernel
theorem dX7_parseProgram_31 : decode cX7_parseProgram 31 = .ok (.invokevirtual 270, 3) := by decide +kernel
theorem dX7_parseProgram_34 : decode cX7_parseProgram 34 = .ok (.aload_n 0, 1) := by decide +kernel
theorem dX7_parseProgram_35 : decode cX7_parseProgram 35 = .ok (.invokevirtual 165, 3) := by decide +kernel
theorem dX7_parseProgram_38 : decode cX7_parseProgram 38 = .ok (.ifCond .ne 4, 3) := by decide +kernel
theorem dX7_parseProgram_41 : decode cX7_parseProgram 41 = .ok (.return_, 1) := by decide +kernel
theorem dX7_parseProgram_42 : decode cX7_parseProgram 42 = .ok (.aload_n 0, 1) := by decide +kernel
theorem dX7_parseProgram_43 : decode cX7_parseProgram 43 = .ok (.iload_n 1, 1) := by decide +kernel
theorem dX7_parseProgram_44 : decode cX7_parseProgram 44 = .ok (.invokevirtual 303, 3) := by decide +kernel
theorem dX7_parseProgram_47 : decode cX7_parseProgram 47 = .ok (.aload_n 0, 1) := by decide +kernel
theorem dX7_parseProgram_48 : decode cX7_parseProgram 48 = .ok (.bipush 44, 2) := by decide +kernel
theorem dX7_parseProgram_50 : decode cX7_parseProgram 50 = .ok (.invokevirtual 287, 3) := by decide +kernel
theorem dX7_parseProgram_53 : decode cX7_parseProgram 53 = .ok (.ifCond .eq 11, 3) := by decide +kernel
theorem dX7_parseProgram_56 : decode cX7_parseProgram 56 = .ok (.aload_n 0, 1) := by decide +kernel
theorem dX7_parseProgram_57 : decode cX7_parseProgram 57 = .ok (.iload_n 1, 1) := by decide +kernel
theorem dX7_parseProgram_58 : decode cX7_parseProgram 58 = .ok (.invokevirtual 303, 3) := by decide +kernel
theorem dX7_parseProgram_61 : decode cX7_parseProgram 61 = .ok (.goto (-14), 3) := by decide +kernel
theorem dX7_parseProgram_64 : decode cX7_parseProgram 64 = .ok (.aload_n 0, 1) := by decide +kernel
theorem dX7_parseProgram_65 : decode cX7_parseProgram 65 = .ok (.invokevirtual 290, 3) := by decide +kernel
theorem dX7_parseProgram_68 : decode cX7_parseProgram 68 = .ok (.return_, 1) := by decide +kernel
theorem dX7_kindHere_0 : decode cX7_kindHere 0 = .ok (.aload_n 0, 1) := by decide +kernel
theorem dX7_kindHere_1 : decode cX7_kindHere 1 = .ok (.ldc 248, 2) := by decide +kernel
theorem dX7_kindHere_3 : decode cX7_kindHere 3 = .ok (.invokevirtual 217, 3) := by decide +kernel
theorem dX7_kindHere_6 : decode cX7_kindHere 6 = .ok (.ifCond .eq 7, 3) := by decide +kernel
theorem dX7_kindHere_9 : decode cX7_kindHere 9 = .ok (.iconst 0, 1) := by decide +kernel
theorem dX7_kindHere_10 : decode cX7_kindHere 10 = .ok (.goto 43, 3) := by decide +kernel
theorem dX7_kindHere_13 : decode cX7_kindHere 13 = .ok (.aload_n 0, 1) := by decide +kernel
theorem dX7_kindHere_14 : decode cX7_kindHere 14 = .ok (.ldc 250, 2) := by decide +kernel
theorem dX7_kindHere_16 : decode cX7_kindHere 16 = .ok (.invokevirtual 217, 3) := by decide +kernel
theorem dX7_kindHere_19 : decode cX7_kindHere 19 = .ok (.ifCond .eq 7, 3) := by decide +kernel
theorem dX7_kindHere_22 : decode cX7_kindHere 22 = .ok (.iconst 1, 1) := by decide +kernel
theorem dX7_kindHere_23 : decode cX7_kindHere 23 = .ok (.goto 30, 3) := by decide +kernel
theorem dX7_kindHere_26 : decode cX7_kindHere 26 = .ok (.aload_n 0, 1) := by decide +kernel
theorem dX7_kindHere_27 : decode cX7_kindHere 27 = .ok (.ldc 252, 2) := by decide +kernel
theorem dX7_kindHere_29 : decode cX7_kindHere 29 = .ok (.invokevirtual 217, 3) := by decide +kernel
theorem dX7_kindHere_32 : decode cX7_kindHere 32 = .ok (.ifCond .eq 7, 3) := by decide +kernel
theorem dX7_kindHere_35 : decode cX7_kindHere 35 = .ok (.iconst 2, 1) := by decide +kernel
theorem dX7_kindHere_36 : decode cX7_kindHere 36 = .ok (.goto 17, 3) := by decide +kernel
theorem dX7_kindHere_39 : decode cX7_kindHere 39 = .ok (.aload_n 0, 1) := by decide +kernel
theorem dX7_kindHere_40 : decode cX7_kindHere 40 = .ok (.ldc 254, 2) := by decide +kernel
theorem dX7_kindHere_42 : decode cX7_kindHere 42 = .ok (.invokevirtual 217, 3) := by decide +kernel
theorem dX7_kindHere_45 : decode cX7_kindHere 45 = .ok (.ifCond .eq 7, 3) := by decide +kernel
theorem dX7_kindHere_48 : decode cX7_kindHere 48 = .ok (.iconst 3, 1) := by decide +kernel
theorem dX7_kindHere_49 : decode cX7_kindHere 49 = .ok (.goto 4, 3) := by decide +kernel
theorem dX7_kindHere_52 : decode cX7_kindHere 52 = .ok (.iconst (-1), 1) := by decide +kernel
theorem dX7_kindHere_53 : decode cX7_kindHere 53 = .ok (.istore_n 1, 1) := by decide +kernel
theorem dX7_kindHere_54 : decode cX7_kindHere 54 = .ok (.aload_n 0, 1) := by decide +kernel
theorem dX7_kindHere_55 : decode cX7_kindHere 55 = .ok (.iload_n 1, 1) := by decide +kernel
theorem dX7_kindHere_56 : decode cX7_kindHere 56 = .ok (.iconst (-1), 1) := by decide +kernel
theorem dX7_kindHere_57 : decode cX7_kindHere 57 = .ok (.if_icmp .ne 7, 3) := by decide +kernel
theorem dX7_kindHere_60 : decode cX7_kindHere 60 = .ok (.iconst 1, 1) := by decide +kernel
theorem dX7_kindHere_61 : decode cX7_kindHere 61 = .ok (.goto 4, 3) := by decide +kernel
theorem dX7_kindHere_64 : decode cX7_kindHere 64 = .ok (.iconst 0, 1) := by decide +kernel
theorem dX7_kindHere_65 : decode cX7_kindHere 65 = .ok (.iconst 1, 1) := by decide +kernel
theorem dX7_kindHere_66 : decode cX7_kindHere 66 = .ok (.invokevirtual 270, 3) := by decide +kernel
theorem dX7_kindHere_69 : decode cX7_kindHere 69 = .ok (.iconst 0, 1) := by decide +kernel
theorem dX7_kindHere_70 : decode cX7_kindHere 70 = .ok (.iload_n 1, 1) := by decide +kernel
theorem dX7_kindHere_71 : decode cX7_kindHere 71 = .ok (.invokestatic 150, 3) := by decide +kernel
theorem dX7_kindHere_74 : decode cX7_kindHere 74 = .ok (.ireturn, 1) := by decide +kernel
theorem dX7_parsePlan_0 : decode cX7_parsePlan 0 = .ok (.aload_n 0, 1) := by decide +kernel
theorem dX7_parsePlan_1 : decode cX7_parsePlan 1 = .ok (.aload_n 0, 1) := by decide +kernel
theorem dX7_parsePlan_2 : decode cX7_parsePlan 2 = .ok (.getfield 24, 3) := by decide +kernel
theorem dX7_parsePlan_5 : decode cX7_parsePlan 5 = .ok (.iconst 3, 1) := by decide +kernel
theorem dX7_parsePlan_6 : decode cX7_parsePlan 6 = .ok (.iaload, 1) := by decide +kernel
theorem dX7_parsePlan_7 : decode cX7_parsePlan 7 = .ok (.bipush 20, 2) := by decide +kernel
theorem dX7_parsePlan_9 : decode cX7_parsePlan 9 = .ok (.if_icmp .ne 7, 3) := by decide +kernel
theorem dX7_parsePlan_12 : decode cX7_parsePlan 12 = .ok (.iconst 1, 1) := by decide +kernel
theorem dX7_parsePlan_13 : decode cX7_parsePlan 13 = .ok (.goto 4, 3) := by decide +kernel
theorem dX7_parsePlan_16 : decode cX7_parsePlan 16 = .ok (.iconst 0, 1) := by decide +kernel
theorem dX7_parsePlan_17 : decode cX7_parsePlan 17 = .ok (.iconst 5, 1) := by decide +kernel
theorem dX7_parsePlan_18 : decode cX7_parsePlan 18 = .ok (.invokevirtual 270, 3) := by decide +kernel
theorem dX7_parsePlan_21 : decode cX7_parsePlan 21 = .ok (.aload_n 0, 1) := by decide +kernel
theorem dX7_parsePlan_22 : decode cX7_parsePlan 22 = .ok (.invokevirtual 214, 3) := by decide +kernel
theorem dX7_parsePlan_25 : decode cX7_parsePlan 25 = .ok (.aload_n 0, 1) := by decide +kernel
theorem dX7_parsePlan_26 : decode cX7_parsePlan 26 = .ok (.iconst 1, 1) := by decide +kernel
theorem dX7_parsePlan_27 : decode cX7_parsePlan 27 = .ok (.sipush 9999, 3) := by decide +kernel
theorem dX7_parsePlan_30 : decode cX7_parsePlan 30 = .ok (.invokevirtual 260, 3) := by decide +kernel
theorem dX7_parsePlan_33 : decode cX7_parsePlan 33 = .ok (.istore_n 1, 1) := by decide +kernel
theorem dX7_parsePlan_34 : decode cX7_parsePlan 34 = .ok (.aload_n 0, 1) := by decide +kernel
theorem dX7_parsePlan_35 : decode cX7_parsePlan 35 = .ok (.invokevirtual 297, 3) := by decide +kernel
theorem dX7_parsePlan_38 : decode cX7_parsePlan 38 = .ok (.istore_n 2, 1) := by decide +kernel
theorem dX7_parsePlan_39 : decode cX7_parsePlan 39 = .ok (.aload_n 0, 1) := by decide +kernel
theorem dX7_parsePlan_40 : decode cX7_parsePlan 40 = .ok (.invokevirtual 214, 3) := by decide +kernel
theorem dX7_parsePlan_43 : decode cX7_parsePlan 43 = .ok (.aload_n 0, 1) := by decide +kernel
theorem dX7_parsePlan_44 : decode cX7_parsePlan 44 = .ok (.invokevirtual 306, 3) := by decide +kernel
theorem dX7_parsePlan_47 : decode cX7_parsePlan 47 = .ok (.istore_n 3, 1) := by decide +kernel
theorem dX7_parsePlan_48 : decode cX7_parsePlan 48 = .ok (.aload_n 0, 1) := by decide +kernel
theorem dX7_parsePlan_49 : decode cX7_parsePlan 49 = .ok (.invokevirtual 214, 3) := by decide +kernel
theorem dX7_parsePlan_52 : decode cX7_parsePlan 52 = .ok (.aload_n 0, 1) := by decide +kernel
theorem dX7_parsePlan_53 : decode cX7_parsePlan 53 = .ok (.invokevirtual 290, 3) := by decide +kernel
theorem dX7_parsePlan_56 : decode cX7_parsePlan 56 = .ok (.aload_n 0, 1) := by decide +kernel
theorem dX7_parsePlan_57 : decode cX7_parsePlan 57 = .ok (.invokevirtual 165, 3) := by decide +kernel
theorem dX7_parsePlan_60 : decode cX7_parsePlan 60 = .ok (.ifCond .eq 12, 3) := by decide +kernel
theorem dX7_parsePlan_63 : decode cX7_parsePlan 63 = .ok (.aload_n 0, 1) := by decide +kernel
theorem dX7_parsePlan_64 : decode cX7_parsePlan 64 = .ok (.iload_n 1, 1) := by decide +kernel
theorem dX7_parsePlan_65 : decode cX7_parsePlan 65 = .ok (.iload_n 2, 1) := by decide +kernel
theorem dX7_parsePlan_66 : decode cX7_parsePlan 66 = .ok (.iload_n 3, 1) := by decide +kernel
theorem dX7_parsePlan_67 : decode cX7_parsePlan 67 = .ok (.invokevirtual 309, 3) := by decide +kernel
theorem dX7_parsePlan_70 : decode cX7_parsePlan 70 = .ok (.istore 4, 2) := by decide +kernel
theorem dX7_parsePlan_72 : decode cX7_parsePlan 72 = .ok (.return_, 1) := by decide +kernel
theorem dX7_parseStatement_0 : decode cX7_parseStatement 0 = .ok (.aload_n 0, 1) := by decide +kernel
theorem dX7_parseStatement_1 : decode cX7_parseStatement 1 = .ok (.ldc 221, 2) := by decide +kernel
theorem dX7_parseStatement_3 : decode cX7_parseStatement 3 = .ok (.invokevirtual 217, 3) := by decide +kernel
theorem dX7_parseStatement_6 : decode cX7_parseStatement 6 = .ok (.ifCond .eq 10, 3) := by decide +kernel
theorem dX7_parseStatement_9 : decode cX7_parseStatement 9 = .ok (.aload_n 0, 1) := by decide +kernel
theorem dX7_parseStatement_10 : decode cX7_parseStatement 10 = .ok (.invokevirtual 313, 3) := by decide +kernel
theorem dX7_parseStatement_13 : decode cX7_parseStatement 13 = .ok (.goto 120, 3) := by decide +kernel
theorem dX7_parseStatement_16 : decode cX7_parseStatement 16 = .ok (.aload_n 0, 1) := by decide +kernel
theorem dX7_parseStatement_17 : decode cX7_parseStatement 17 = .ok (.ldc 223, 2) := by decide +kernel
theorem dX7_parseStatement_19 : decode cX7_parseStatement 19 = .ok (.invokevirtual 217, 3) := by decide +kernel
theorem dX7_parseStatement_22 : decode cX7_parseStatement 22 = .ok (.ifCond .eq 10, 3) := by decide +kernel
theorem dX7_parseStatement_25 : decode cX7_parseStatement 25 = .ok (.aload_n 0, 1) := by decide +kernel
theorem dX7_parseStatement_26 : decode cX7_parseStatement 26 = .ok (.invokevirtual 316, 3) := by decide +kernel
theorem dX7_parseStatement_29 : decode cX7_parseStatement 29 = .ok (.goto 104, 3) := by decide +kernel
theorem dX7_parseStatement_32 : decode cX7_parseStatement 32 = .ok (.aload_n 0, 1) := by decide +kernel
theorem dX7_parseStatement_33 : decode cX7_parseStatement 33 = .ok (.ldc 227, 2) := by decide +kernel
theorem dX7_parseStatement_35 : decode cX7_parseStatement 35 = .ok (.invokevirtual 217, 3) := by decide +kernel
theorem dX7_parseStatement_38 : decode cX7_parseStatement 38 = .ok (.ifCond .eq 10, 3) := by decide +kernel
theorem dX7_parseStatement_41 : decode cX7_parseStatement 41 = .ok (.aload_n 0, 1) := by decide +kernel
theorem dX7_parseStatement_42 : decode cX7_parseStatement 42 = .ok (.invokevirtual 319, 3) := by decide +kernel
theorem dX7_parseStatement_45 : decode cX7_parseStatement 45 = .ok (.goto 88, 3) := by decide +kernel
theorem dX7_parseStatement_48 : decode cX7_parseStatement 48 = .ok (.aload_n 0, 1) := by decide +kernel
theorem dX7_parseStatement_49 : decode cX7_parseStatement 49 = .ok (.ldc 229, 2) := by decide +kernel
theorem dX7_parseStatement_51 : decode cX7_parseStatement 51 = .ok (.invokevirtual 217, 3) := by decide +kernel
theorem dX7_parseStatement_54 : decode cX7_parseStatement 54 = .ok (.ifCond .eq 10, 3) := by decide +kernel
theorem dX7_parseStatement_57 : decode cX7_parseStatement 57 = .ok (.aload_n 0, 1) := by decide +kernel
theorem dX7_parseStatement_58 : decode cX7_parseStatement 58 = .ok (.invokevirtual 322, 3) := by decide +kernel
theorem dX7_parseStatement_61 : decode cX7_parseStatement 61 = .ok (.goto 72, 3) := by decide +kernel
theorem dX7_parseStatement_64 : decode cX7_parseStatement 64 = .ok (.aload_n 0, 1) := by decide +kernel
theorem dX7_parseStatement_65 : decode cX7_parseStatement 65 = .ok (.ldc 231, 2) := by decide +kernel
theorem dX7_parseStatement_67 : decode cX7_parseStatement 67 = .ok (.invokevirtual 217, 3) := by decide +kernel
theorem dX7_parseStatement_70 : decode cX7_parseStatement 70 = .ok (.ifCond .eq 10, 3) := by decide +kernel
theorem dX7_parseStatement_73 : decode cX7_parseStatement 73 = .ok (.aload_n 0, 1) := by decide +kernel
theorem dX7_parseStatement_74 : decode cX7_parseStatement 74 = .ok (.invokevirtual 325, 3) := by decide +kernel
theorem dX7_parseStatement_77 : decode cX7_parseStatement 77 = .ok (.goto 56, 3) := by decide +kernel
theorem dX7_parseStatement_80 : decode cX7_parseStatement 80 = .ok (.aload_n 0, 1) := by decide +kernel
theorem dX7_parseStatement_81 : decode cX7_parseStatement 81 = .ok (.ldc 232, 2) := by decide +kernel
theorem dX7_parseStatement_83 : decode cX7_parseStatement 83 = .ok (.invokevirtual 217, 3) := by decide +kernel
theorem dX7_parseStatement_86 : decode cX7_parseStatement 86 = .ok (.ifCond .eq 10, 3) := by decide +kernel
theorem dX7_parseStatement_89 : decode cX7_parseStatement 89 = .ok (.aload_n 0, 1) := by decide +kernel
theorem dX7_parseStatement_90 : decode cX7_parseStatement 90 = .ok (.invokevirtual 328, 3) := by decide +kernel
theorem dX7_parseStatement_93 : decode cX7_parseStatement 93 = .ok (.goto 40, 3) := by decide +kernel
theorem dX7_parseStatement_96 : decode cX7_parseStatement 96 = .ok (.aload_n 0, 1) := by decide +kernel
theorem dX7_parseStatement_97 : decode cX7_parseStatement 97 = .ok (.ldc 244, 2) := by decide +kernel
theorem dX7_parseStatement_99 : decode cX7_parseStatement 99 = .ok (.invokevirtual 217, 3) := by decide +kernel
theorem dX7_parseStatement_102 : decode cX7_parseStatement 102 = .ok (.ifCond .eq 10, 3) := by decide +kernel
theorem dX7_parseStatement_105 : decode cX7_parseStatement 105 = .ok (.aload_n 0, 1) := by decide +kernel
theorem dX7_parseStatement_106 : decode cX7_parseStatement 106 = .ok (.invokevirtual 331, 3) := by decide +kernel
theorem dX7_parseStatement_109 : decode cX7_parseStatement 109 = .ok (.goto 24, 3) := by decide +kernel
theorem dX7_parseStatement_112 : decode cX7_parseStatement 112 = .ok (.aload_n 0, 1) := by decide +kernel
theorem dX7_parseStatement_113 : decode cX7_parseStatement 113 = .ok (.ldc 246, 2) := by decide +kernel
theorem dX7_parseStatement_115 : decode cX7_parseStatement 115 = .ok (.invokevirtual 217, 3) := by decide +kernel
theorem dX7_parseStatement_118 : decode cX7_parseStatement 118 = .ok (.ifCond .eq 10, 3) := by decide +kernel
theorem dX7_parseStatement_121 : decode cX7_parseStatement 121 = .ok (.aload_n 0, 1) := by decide +kernel
theorem dX7_parseStatement_122 : decode cX7_parseStatement 122 = .ok (.invokevirtual 334, 3) := by decide +kernel
theorem dX7_parseStatement_125 : decode cX7_parseStatement 125 = .ok (.goto 8, 3) := by decide +kernel
theorem dX7_parseStatement_128 : decode cX7_parseStatement 128 = .ok (.aload_n 0, 1) := by decide +kernel
theorem dX7_parseStatement_129 : decode cX7_parseStatement 129 = .ok (.iconst 1, 1) := by decide +kernel
theorem dX7_parseStatement_130 : decode cX7_parseStatement 130 = .ok (.invokevirtual 208, 3) := by decide +kernel
theorem dX7_parseStatement_133 : decode cX7_parseStatement 133 = .ok (.return_, 1) := by decide +kernel
theorem dX7_load_0 : decode cX7_load 0 = .ok (.aload_n 0, 1) := by decide +kernel
theorem dX7_load_1 : decode cX7_load 1 = .ok (.iconst 0, 1) := by decide +kernel
theorem dX7_load_2 : decode cX7_load 2 = .ok (.putfield 3, 3) := by decide +kernel
theorem dX7_load_5 : decode cX7_load 5 = .ok (.aload_n 0, 1) := by decide +kernel
theorem dX7_load_6 : decode cX7_load 6 = .ok (.aload_n 0, 1) := by decide +kernel
theorem dX7_load_7 : decode cX7_load 7 = .ok (.getfield 152, 3) := by decide +kernel
theorem dX7_load_10 : decode cX7_load 10 = .ok (.putfield 172, 3) := by decide +kernel
theorem dX7_load_13 : decode cX7_load 13 = .ok (.aload_n 0, 1) := by decide +kernel
theorem dX7_load_14 : decode cX7_load 14 = .ok (.iconst 0, 1) := by decide +kernel
theorem dX7_load_15 : decode cX7_load 15 = .ok (.putfield 152, 3) := by decide +kernel
theorem dX7_load_18 : decode cX7_load 18 = .ok (.aload_n 0, 1) := by decide +kernel
theorem dX7_load_19 : decode cX7_load 19 = .ok (.iconst 0, 1) := by decide +kernel
theorem dX7_load_20 : decode cX7_load 20 = .ok (.putfield 175, 3) := by decide +kernel
theorem dX7_load_23 : decode cX7_load 23 = .ok (.aload_n 0, 1) := by decide +kernel
theorem dX7_load_24 : decode cX7_load 24 = .ok (.iconst 0, 1) := by decide +kernel
theorem dX7_load_25 : decode cX7_load 25 = .ok (.putfield 162, 3) := by decide +kernel
theorem dX7_load_28 : decode cX7_load 28 = .ok (.aload_n 0, 1) := by decide +kernel
theorem dX7_load_29 : decode cX7_load 29 = .ok (.iconst (-1), 1) := by decide +kernel
theorem dX7_load_30 : decode cX7_load 30 = .ok (.putfield 34, 3) := by decide +kernel
theorem dX7_load_33 : decode cX7_load 33 = .ok (.iconst 0, 1) := by decide +kernel
theorem dX7_load_34 : decode cX7_load 34 = .ok (.istore_n 1, 1) := by decide +kernel
theorem dX7_load_35 : decode cX7_load 35 = .ok (.iload_n 1, 1) := by decide +kernel
theorem dX7_load_36 : decode cX7_load 36 = .ok (.aload_n 0, 1) := by decide +kernel
theorem dX7_load_37 : decode cX7_load 37 = .ok (.getfield 37, 3) := by decide +kernel
theorem dX7_load_40 : decode cX7_load 40 = .ok (.arraylength, 1) := by decide +kernel
theorem dX7_load_41 : decode cX7_load 41 = .ok (.if_icmp .ge 16, 3) := by decide +kernel
theorem dX7_load_44 : decode cX7_load 44 = .ok (.aload_n 0, 1) := by decide +kernel
theorem dX7_load_45 : decode cX7_load 45 = .ok (.getfield 37, 3) := by decide +kernel
theorem dX7_load_48 : decode cX7_load 48 = .ok (.iload_n 1, 1) := by decide +kernel
theorem dX7_load_49 : decode cX7_load 49 = .ok (.iconst 0, 1) := by decide +kernel
theorem dX7_load_50 : decode cX7_load 50 = .ok (.bastore, 1) := by decide +kernel
theorem dX7_load_51 : decode cX7_load 51 = .ok (.iinc 1 1, 3) := by decide +kernel
theorem dX7_load_54 : decode cX7_load 54 = .ok (.goto (-19), 3) := by decide +kernel
theorem dX7_load_57 : decode cX7_load 57 = .ok (.aload_n 0, 1) := by decide +kernel
theorem dX7_load_58 : decode cX7_load 58 = .ok (.aload_n 0, 1) := by decide +kernel
theorem dX7_load_59 : decode cX7_load 59 = .ok (.getfield 21, 3) := by decide +kernel
theorem dX7_load_62 : decode cX7_load 62 = .ok (.putfield 24, 3) := by decide +kernel
theorem dX7_load_65 : decode cX7_load 65 = .ok (.aload_n 0, 1) := by decide +kernel
theorem dX7_load_66 : decode cX7_load 66 = .ok (.invokevirtual 53, 3) := by decide +kernel
theorem dX7_load_69 : decode cX7_load 69 = .ok (.aload_n 0, 1) := by decide +kernel
theorem dX7_load_70 : decode cX7_load 70 = .ok (.invokevirtual 196, 3) := by decide +kernel
theorem dX7_load_73 : decode cX7_load 73 = .ok (.aload_n 0, 1) := by decide +kernel
theorem dX7_load_74 : decode cX7_load 74 = .ok (.aload_n 0, 1) := by decide +kernel
theorem dX7_load_75 : decode cX7_load 75 = .ok (.getfield 181, 3) := by decide +kernel
theorem dX7_load_78 : decode cX7_load 78 = .ok (.ifCond .ne 7, 3) := by decide +kernel
theorem dX7_load_81 : decode cX7_load 81 = .ok (.iconst 1, 1) := by decide +kernel
theorem dX7_load_82 : decode cX7_load 82 = .ok (.goto 4, 3) := by decide +kernel
theorem dX7_load_85 : decode cX7_load 85 = .ok (.iconst 0, 1) := by decide +kernel
theorem dX7_load_86 : decode cX7_load 86 = .ok (.iconst 1, 1) := by decide +kernel
theorem dX7_load_87 : decode cX7_load 87 = .ok (.invokevirtual 270, 3) := by decide +kernel
theorem dX7_load_90 : decode cX7_load 90 = .ok (.aload_n 0, 1) := by decide +kernel
theorem dX7_load_91 : decode cX7_load 91 = .ok (.invokevirtual 165, 3) := by decide +kernel
theorem dX7_load_94 : decode cX7_load 94 = .ok (.ifCond .eq 17, 3) := by decide +kernel
theorem dX7_load_97 : decode cX7_load 97 = .ok (.aload_n 0, 1) := by decide +kernel
theorem dX7_load_98 : decode cX7_load 98 = .ok (.getfield 181, 3) := by decide +kernel
theorem dX7_load_101 : decode cX7_load 101 = .ok (.ifCond .eq 10, 3) := by decide +kernel
theorem dX7_load_104 : decode cX7_load 104 = .ok (.aload_n 0, 1) := by decide +kernel
theorem dX7_load_105 : decode cX7_load 105 = .ok (.invokevirtual 337, 3) := by decide +kernel
theorem dX7_load_108 : decode cX7_load 108 = .ok (.goto (-18), 3) := by decide +kernel
theorem dX7_load_111 : decode cX7_load 111 = .ok (.aload_n 0, 1) := by decide +kernel
theorem dX7_load_112 : decode cX7_load 112 = .ok (.aload_n 0, 1) := by decide +kernel
theorem dX7_load_113 : decode cX7_load 113 = .ok (.getfield 17, 3) := by decide +kernel
theorem dX7_load_116 : decode cX7_load 116 = .ok (.putfield 24, 3) := by decide +kernel
theorem dX7_load_119 : decode cX7_load 119 = .ok (.aload_n 0, 1) := by decide +kernel
theorem dX7_load_120 : decode cX7_load 120 = .ok (.invokevirtual 165, 3) := by decide +kernel
theorem dX7_load_123 : decode cX7_load 123 = .ok (.ifCond .ne 6, 3) := by decide +kernel
theorem dX7_load_126 : decode cX7_load 126 = .ok (.bipush (-4), 2) := by decide +kernel
theorem dX7_load_128 : decode cX7_load 128 = .ok (.ireturn, 1) := by decide +kernel
theorem dX7_load_129 : decode cX7_load 129 = .ok (.aload_n 0, 1) := by decide +kernel
theorem dX7_load_130 : decode cX7_load 130 = .ok (.invokevirtual 340, 3) := by decide +kernel
theorem dX7_load_133 : decode cX7_load 133 = .ok (.iconst 0, 1) := by decide +kernel
theorem dX7_load_134 : decode cX7_load 134 = .ok (.istore_n 1, 1) := by decide +kernel
theorem dX7_load_135 : decode cX7_load 135 = .ok (.iload_n 1, 1) := by decide +kernel
theorem dX7_load_136 : decode cX7_load 136 = .ok (.sipush 467, 3) := by decide +kernel
theorem dX7_load_139 : decode cX7_load 139 = .ok (.if_icmp .ge 21, 3) := by decide +kernel
theorem dX7_load_142 : decode cX7_load 142 = .ok (.aload_n 0, 1) := by decide +kernel
theorem dX7_load_143 : decode cX7_load 143 = .ok (.getfield 17, 3) := by decide +kernel
theorem dX7_load_146 : decode cX7_load 146 = .ok (.iload_n 1, 1) := by decide +kernel
theorem dX7_load_147 : decode cX7_load 147 = .ok (.aload_n 0, 1) := by decide +kernel
theorem dX7_load_148 : decode cX7_load 148 = .ok (.getfield 21, 3) := by decide +kernel
theorem dX7_load_151 : decode cX7_load 151 = .ok (.iload_n 1, 1) := by decide +kernel
theorem dX7_load_152 : decode cX7_load 152 = .ok (.iaload, 1) := by decide +kernel
theorem dX7_load_153 : decode cX7_load 153 = .ok (.iastore, 1) := by decide +kernel
theorem dX7_load_154 : decode cX7_load 154 = .ok (.iinc 1 1, 3) := by decide +kernel
theorem dX7_load_157 : decode cX7_load 157 = .ok (.goto (-22), 3) := by decide +kernel
theorem dX7_load_160 : decode cX7_load 160 = .ok (.aload_n 0, 1) := by decide +kernel
theorem dX7_load_161 : decode cX7_load 161 = .ok (.invokevirtual 56, 3) := by decide +kernel
theorem dX7_load_164 : decode cX7_load 164 = .ok (.ireturn, 1) := by decide +kernel
theorem dX7_errorCode_0 : decode cX7_errorCode 0 = .ok (.aload_n 0, 1) := by decide +kernel
theorem dX7_errorCode_1 : decode cX7_errorCode 1 = .ok (.iconst 0, 1) := by decide +kernel
theorem dX7_errorCode_2 : decode cX7_errorCode 2 = .ok (.putfield 3, 3) := by decide +kernel
theorem dX7_errorCode_5 : decode cX7_errorCode 5 = .ok (.aload_n 0, 1) := by decide +kernel
theorem dX7_errorCode_6 : decode cX7_errorCode 6 = .ok (.getfield 162, 3) := by decide +kernel
theorem dX7_errorCode_9 : decode cX7_errorCode 9 = .ok (.ireturn, 1) := by decide +kernel
theorem dX7_errorPosition_0 : decode cX7_errorPosition 0 = .ok (.aload_n 0, 1) := by decide +kernel
theorem dX7_errorPosition_1 : decode cX7_errorPosition 1 = .ok (.iconst 0, 1) := by decide +kernel
theorem dX7_errorPosition_2 : decode cX7_errorPosition 2 = .ok (.putfield 3, 3) := by decide +kernel
theorem dX7_errorPosition_5 : decode cX7_errorPosition 5 = .ok (.aload_n 0, 1) := by decide +kernel
theorem dX7_errorPosition_6 : decode cX7_errorPosition 6 = .ok (.getfield 34, 3) := by decide +kernel
theorem dX7_errorPosition_9 : decode cX7_errorPosition 9 = .ok (.ireturn, 1) := by decide +kernel
theorem dX7_find_0 : decode cX7_find 0 = .ok (.aload_n 0, 1) := by decide +kernel
theorem dX7_find_1 : decode cX7_find 1 = .ok (.iconst 0, 1) := by decide +kernel
theorem dX7_find_2 : decode cX7_find 2 = .ok (.putfield 3, 3) := by decide +kernel
theorem dX7_find_5 : decode cX7_find 5 = .ok (.aload_n 0, 1) := by decide +kernel
theorem dX7_find_6 : decode cX7_find 6 = .ok (.getfield 152, 3) := by decide +kernel
theorem dX7_find_9 : decode cX7_find 9 = .ok (.i2l, 1) := by decide +kernel
theorem dX7_find_10 : decode cX7_find 10 = .ok (.lconst 1, 1) := by decide +kernel
theorem dX7_find_11 : decode cX7_find 11 = .ok (.ldc2_w 343, 3) := by decide +kernel
theorem dX7_find_14 : decode cX7_find 14 = .ok (.invokestatic 60, 3) := by decide +kernel
theorem dX7_find_17 : decode cX7_find 17 = .ok (.istore_n 1, 1) := by decide +kernel
theorem dX7_find_18 : decode cX7_find 18 = .ok (.iconst 0, 1) := by decide +kernel
theorem dX7_find_19 : decode cX7_find 19 = .ok (.istore_n 2, 1) := by decide +kernel
theorem dX7_find_20 : decode cX7_find 20 = .ok (.iload_n 2, 1) := by decide +kernel
theorem dX7_find_21 : decode cX7_find 21 = .ok (.aload_n 0, 1) := by decide +kernel
theorem dX7_find_22 : decode cX7_find 22 = .ok (.getfield 152, 3) := by decide +kernel
theorem dX7_find_25 : decode cX7_find 25 = .ok (.if_icmp .ge 30, 3) := by decide +kernel
theorem dX7_find_28 : decode cX7_find 28 = .ok (.iload_n 1, 1) := by decide +kernel
theorem dX7_find_29 : decode cX7_find 29 = .ok (.ifCond .eq 26, 3) := by decide +kernel
theorem dX7_find_32 : decode cX7_find 32 = .ok (.aload_n 0, 1) := by decide +kernel
theorem dX7_find_33 : decode cX7_find 33 = .ok (.getfield 30, 3) := by decide +kernel
theorem dX7_find_36 : decode cX7_find 36 = .ok (.iload_n 2, 1) := by decide +kernel
theorem dX7_find_37 : decode cX7_find 37 = .ok (.baload, 1) := by decide +kernel
theorem dX7_find_38 : decode cX7_find 38 = .ok (.i2l, 1) := by decide +kernel
theorem dX7_find_39 : decode cX7_find 39 = .ok (.ldc2_w 184, 3) := by decide +kernel
theorem dX7_find_42 : decode cX7_find 42 = .ok (.ldc2_w 186, 3) := by decide +kernel
theorem dX7_find_45 : decode cX7_find 45 = .ok (.invokestatic 60, 3) := by decide +kernel
theorem dX7_find_48 : decode cX7_find 48 = .ok (.istore_n 1, 1) := by decide +kernel
theorem dX7_find_49 : decode cX7_find 49 = .ok (.iinc 2 1, 3) := by decide +kernel
theorem dX7_find_52 : decode cX7_find 52 = .ok (.goto (-32), 3) := by decide +kernel
theorem dX7_find_55 : decode cX7_find 55 = .ok (.iload_n 1, 1) := by decide +kernel
theorem dX7_find_56 : decode cX7_find 56 = .ok (.ifCond .eq 18, 3) := by decide +kernel
theorem dX7_find_59 : decode cX7_find 59 = .ok (.aload_n 0, 1) := by decide +kernel
theorem dX7_find_60 : decode cX7_find 60 = .ok (.getfield 30, 3) := by decide +kernel
theorem dX7_find_63 : decode cX7_find 63 = .ok (.iconst 0, 1) := by decide +kernel
theorem dX7_find_64 : decode cX7_find 64 = .ok (.aload_n 0, 1) := by decide +kernel
theorem dX7_find_65 : decode cX7_find 65 = .ok (.getfield 152, 3) := by decide +kernel
theorem dX7_find_68 : decode cX7_find 68 = .ok (.invokestatic 274, 3) := by decide +kernel
theorem dX7_find_71 : decode cX7_find 71 = .ok (.goto 4, 3) := by decide +kernel
theorem dX7_find_74 : decode cX7_find 74 = .ok (.iconst 0, 1) := by decide +kernel
theorem dX7_find_75 : decode cX7_find 75 = .ok (.istore_n 2, 1) := by decide +kernel
theorem dX7_find_76 : decode cX7_find 76 = .ok (.aload_n 0, 1) := by decide +kernel
theorem dX7_find_77 : decode cX7_find 77 = .ok (.iconst 0, 1) := by decide +kernel
theorem dX7_find_78 : decode cX7_find 78 = .ok (.putfield 152, 3) := by decide +kernel
theorem dX7_find_81 : decode cX7_find 81 = .ok (.aload_n 0, 1) := by decide +kernel
theorem dX7_find_82 : decode cX7_find 82 = .ok (.iload_n 2, 1) := by decide +kernel
theorem dX7_find_83 : decode cX7_find 83 = .ok (.invokevirtual 281, 3) := by decide +kernel
theorem dX7_find_86 : decode cX7_find 86 = .ok (.ireturn, 1) := by decide +kernel
theorem dX7_property_0 : decode cX7_property 0 = .ok (.aload_n 0, 1) := by decide +kernel
theorem dX7_property_1 : decode cX7_property 1 = .ok (.iload_n 1, 1) := by decide +kernel
theorem dX7_property_2 : decode cX7_property 2 = .ok (.i2l, 1) := by decide +kernel
theorem dX7_property_3 : decode cX7_property 3 = .ok (.lconst 0, 1) := by decide +kernel
theorem dX7_property_4 : decode cX7_property 4 = .ok (.ldc2_w 345, 3) := by decide +kernel
theorem dX7_property_7 : decode cX7_property 7 = .ok (.invokestatic 60, 3) := by decide +kernel
theorem dX7_property_10 : decode cX7_property 10 = .ok (.invokevirtual 155, 3) := by decide +kernel
theorem dX7_property_13 : decode cX7_property 13 = .ok (.ifCond .ne 5, 3) := by decide +kernel
theorem dX7_property_16 : decode cX7_property 16 = .ok (.iconst 0, 1) := by decide +kernel
theorem dX7_property_17 : decode cX7_property 17 = .ok (.ireturn, 1) := by decide +kernel
theorem dX7_property_18 : decode cX7_property 18 = .ok (.iload_n 1, 1) := by decide +kernel
theorem dX7_property_19 : decode cX7_property 19 = .ok (.tableswitch 69 0 4 #[33, 38, 45, 55, 62], 33) := by decide +kernel
theorem dX7_property_52 : decode cX7_property 52 = .ok (.aload_n 0, 1) := by decide +kernel
theorem dX7_property_53 : decode cX7_property 53 = .ok (.invokevirtual 56, 3) := by decide +kernel
theorem dX7_property_56 : decode cX7_property 56 = .ok (.ireturn, 1) := by decide +kernel
theorem dX7_property_57 : decode cX7_property 57 = .ok (.aload_n 0, 1) := by decide +kernel
theorem dX7_property_58 : decode cX7_property 58 = .ok (.getfield 17, 3) := by decide +kernel
theorem dX7_property_61 : decode cX7_property 61 = .ok (.iconst 1, 1) := by decide +kernel
theorem dX7_property_62 : decode cX7_property 62 = .ok (.iaload, 1) := by decide +kernel
theorem dX7_property_63 : decode cX7_property 63 = .ok (.ireturn, 1) := by decide +kernel
theorem dX7_property_64 : decode cX7_property 64 = .ok (.aload_n 0, 1) := by decide +kernel
theorem dX7_property_65 : decode cX7_property 65 = .ok (.getfield 17, 3) := by decide +kernel
theorem dX7_property_68 : decode cX7_property 68 = .ok (.iconst 1, 1) := by decide +kernel
theorem dX7_property_69 : decode cX7_property 69 = .ok (.iaload, 1) := by decide +kernel
theorem dX7_property_70 : decode cX7_property 70 = .ok (.bipush 48, 2) := by decide +kernel
theorem dX7_property_72 : decode cX7_property 72 = .ok (.irem, 1) := by decide +kernel
theorem dX7_property_73 : decode cX7_property 73 = .ok (.ireturn, 1) := by decide +kernel
theorem dX7_property_74 : decode cX7_property 74 = .ok (.aload_n 0, 1) := by decide +kernel
theorem dX7_property_75 : decode cX7_property 75 = .ok (.getfield 17, 3) := by decide +kernel
theorem dX7_property_78 : decode cX7_property 78 = .ok (.iconst 2, 1) := by decide +kernel
theorem dX7_property_79 : decode cX7_property 79 = .ok (.iaload, 1) := by decide +kernel
theorem dX7_property_80 : decode cX7_property 80 = .ok (.ireturn, 1) := by decide +kernel
theorem dX7_property_81 : decode cX7_property 81 = .ok (.aload_n 0, 1) := by decide +kernel
theorem dX7_property_82 : decode cX7_property 82 = .ok (.getfield 17, 3) := by decide +kernel
theorem dX7_property_85 : decode cX7_property 85 = .ok (.iconst 3, 1) := by decide +kernel
theorem dX7_property_86 : decode cX7_property 86 = .ok (.iaload, 1) := by decide +kernel
theorem dX7_property_87 : decode cX7_property 87 = .ok (.ireturn, 1) := by decide +kernel
theorem dX7_property_88 : decode cX7_property 88 = .ok (.aload_n 0, 1) := by decide +kernel
theorem dX7_property_89 : decode cX7_property 89 = .ok (.getfield 17, 3) := by decide +kernel
theorem dX7_property_92 : decode cX7_property 92 = .ok (.iconst 4, 1) := by decide +kernel
theorem dX7_property_93 : decode cX7_property 93 = .ok (.iload_n 1, 1) := by decide +kernel
theorem dX7_property_94 : decode cX7_property 94 = .ok (.iadd, 1) := by decide +kernel
theorem dX7_property_95 : decode cX7_property 95 = .ok (.iconst 5, 1) := by decide +kernel
theorem dX7_property_96 : decode cX7_property 96 = .ok (.isub, 1) := by decide +kernel
theorem dX7_property_97 : decode cX7_property 97 = .ok (.iaload, 1) := by decide +kernel
theorem dX7_property_98 : decode cX7_property 98 = .ok (.ireturn, 1) := by decide +kernel
theorem dX7_room_0 : decode cX7_room 0 = .ok (.aload_n 0, 1) := by decide +kernel
theorem dX7_room_1 : decode cX7_room 1 = .ok (.aload_n 0, 1) := by decide +kernel
theorem dX7_room_2 : decode cX7_room 2 = .ok (.iload_n 1, 1) := by decide +kernel
theorem dX7_room_3 : decode cX7_room 3 = .ok (.invokevirtual 347, 3) := by decide +kernel
theorem dX7_room_6 : decode cX7_room 6 = .ok (.iload_n 2, 1) := by decide +kernel
theorem dX7_room_7 : decode cX7_room 7 = .ok (.i2l, 1) := by decide +kernel
theorem dX7_room_8 : decode cX7_room 8 = .ok (.lconst 0, 1) := by decide +kernel
theorem dX7_room_9 : decode cX7_room 9 = .ok (.ldc2_w 350, 3) := by decide +kernel
theorem dX7_room_12 : decode cX7_room 12 = .ok (.invokestatic 60, 3) := by decide +kernel
theorem dX7_room_15 : decode cX7_room 15 = .ok (.invokevirtual 352, 3) := by decide +kernel
theorem dX7_room_18 : decode cX7_room 18 = .ok (.ifCond .ne 5, 3) := by decide +kernel
theorem dX7_room_21 : decode cX7_room 21 = .ok (.iconst 0, 1) := by decide +kernel
theorem dX7_room_22 : decode cX7_room 22 = .ok (.ireturn, 1) := by decide +kernel
theorem dX7_room_23 : decode cX7_room 23 = .ok (.iload_n 2, 1) := by decide +kernel
theorem dX7_room_24 : decode cX7_room 24 = .ok (.bipush 8, 2) := by decide +kernel
theorem dX7_room_26 : decode cX7_room 26 = .ok (.if_icmp .ne 17, 3) := by decide +kernel
theorem dX7_room_29 : decode cX7_room 29 = .ok (.aload_n 0, 1) := by decide +kernel
theorem dX7_room_30 : decode cX7_room 30 = .ok (.iload_n 1, 1) := by decide +kernel
theorem dX7_room_31 : decode cX7_room 31 = .ok (.bipush 9, 2) := by decide +kernel
theorem dX7_room_33 : decode cX7_room 33 = .ok (.invokevirtual 68, 3) := by decide +kernel
theorem dX7_room_36 : decode cX7_room 36 = .ok (.ifCond .ne 7, 3) := by decide +kernel
theorem dX7_room_39 : decode cX7_room 39 = .ok (.iconst 1, 1) := by decide +kernel
theorem dX7_room_40 : decode cX7_room 40 = .ok (.goto 4, 3) := by decide +kernel
theorem dX7_room_43 : decode cX7_room 43 = .ok (.iconst 0, 1) := by decide +kernel
theorem dX7_room_44 : decode cX7_room 44 = .ok (.istore_n 3, 1) := by decide +kernel
theorem dX7_room_45 : decode cX7_room 45 = .ok (.iload_n 3, 1) := by decide +kernel
theorem dX7_room_46 : decode cX7_room 46 = .ok (.ifCond .eq 7, 3) := by decide +kernel
theorem dX7_room_49 : decode cX7_room 49 = .ok (.iconst (-1), 1) := by decide +kernel
theorem dX7_room_50 : decode cX7_room 50 = .ok (.goto 9, 3) := by decide +kernel
theorem dX7_room_53 : decode cX7_room 53 = .ok (.aload_n 0, 1) := by decide +kernel
theorem dX7_room_54 : decode cX7_room 54 = .ok (.iload_n 1, 1) := by decide +kernel
theorem dX7_room_55 : decode cX7_room 55 = .ok (.iload_n 2, 1) := by decide +kernel
theorem dX7_room_56 : decode cX7_room 56 = .ok (.invokevirtual 68, 3) := by decide +kernel
theorem dX7_room_59 : decode cX7_room 59 = .ok (.ireturn, 1) := by decide +kernel
theorem dX7_isCount_0 : decode cX7_isCount 0 = .ok (.iload_n 0, 1) := by decide +kernel
theorem dX7_isCount_1 : decode cX7_isCount 1 = .ok (.i2l, 1) := by decide +kernel
theorem dX7_isCount_2 : decode cX7_isCount 2 = .ok (.lconst 0, 1) := by decide +kernel
theorem dX7_isCount_3 : decode cX7_isCount 3 = .ok (.ldc2_w 356, 3) := by decide +kernel
theorem dX7_isCount_6 : decode cX7_isCount 6 = .ok (.invokestatic 60, 3) := by decide +kernel
theorem dX7_isCount_9 : decode cX7_isCount 9 = .ok (.ireturn, 1) := by decide +kernel
theorem dX7_count_0 : decode cX7_count 0 = .ok (.aload_n 0, 1) := by decide +kernel
theorem dX7_count_1 : decode cX7_count 1 = .ok (.aload_n 0, 1) := by decide +kernel
theorem dX7_count_2 : decode cX7_count 2 = .ok (.iload_n 1, 1) := by decide +kernel
theorem dX7_count_3 : decode cX7_count 3 = .ok (.invokevirtual 347, 3) := by decide +kernel
theorem dX7_count_6 : decode cX7_count 6 = .ok (.iload_n 2, 1) := by decide +kernel
theorem dX7_count_7 : decode cX7_count 7 = .ok (.invokestatic 358, 3) := by decide +kernel
theorem dX7_count_10 : decode cX7_count 10 = .ok (.invokevirtual 352, 3) := by decide +kernel
theorem dX7_count_13 : decode cX7_count 13 = .ok (.ifCond .eq 15, 3) := by decide +kernel
theorem dX7_count_16 : decode cX7_count 16 = .ok (.aload_n 0, 1) := by decide +kernel
theorem dX7_count_17 : decode cX7_count 17 = .ok (.iload_n 1, 1) := by decide +kernel
theorem dX7_count_18 : decode cX7_count 18 = .ok (.bipush 12, 2) := by decide +kernel
theorem dX7_count_20 : decode cX7_count 20 = .ok (.iload_n 2, 1) := by decide +kernel
theorem dX7_count_21 : decode cX7_count 21 = .ok (.iadd, 1) := by decide +kernel
theorem dX7_count_22 : decode cX7_count 22 = .ok (.invokevirtual 68, 3) := by decide +kernel
theorem dX7_count_25 : decode cX7_count 25 = .ok (.goto 4, 3) := by decide +kernel
theorem dX7_count_28 : decode cX7_count 28 = .ok (.iconst 0, 1) := by decide +kernel
theorem dX7_count_29 : decode cX7_count 29 = .ok (.ireturn, 1) := by decide +kernel
theorem dX7_target_0 : decode cX7_target 0 = .ok (.aload_n 0, 1) := by decide +kernel
theorem dX7_target_1 : decode cX7_target 1 = .ok (.aload_n 0, 1) := by decide +kernel
theorem dX7_target_2 : decode cX7_target 2 = .ok (.iload_n 1, 1) := by decide +kernel
theorem dX7_target_3 : decode cX7_target 3 = .ok (.invokevirtual 347, 3) := by decide +kernel
theorem dX7_target_6 : decode cX7_target 6 = .ok (.invokevirtual 155, 3) := by decide +kernel
theorem dX7_target_9 : decode cX7_target 9 = .ok (.ifCond .eq 11, 3) := by decide +kernel
theorem dX7_target_12 : decode cX7_target 12 = .ok (.aload_n 0, 1) := by decide +kernel
theorem dX7_target_13 : decode cX7_target 13 = .ok (.iload_n 1, 1) := by decide +kernel
theorem dX7_target_14 : decode cX7_target 14 = .ok (.invokevirtual 78, 3) := by decide +kernel
theorem dX7_target_17 : decode cX7_target 17 = .ok (.goto 4, 3) := by decide +kernel
theorem dX7_target_20 : decode cX7_target 20 = .ok (.iconst 0, 1) := by decide +kernel
theorem dX7_target_21 : decode cX7_target 21 = .ok (.ireturn, 1) := by decide +kernel
theorem dX7_isTick_0 : decode cX7_isTick 0 = .ok (.iload_n 0, 1) := by decide +kernel
theorem dX7_isTick_1 : decode cX7_isTick 1 = .ok (.i2l, 1) := by decide +kernel
theorem dX7_isTick_2 : decode cX7_isTick 2 = .ok (.lconst 0, 1) := by decide +kernel
theorem dX7_isTick_3 : decode cX7_isTick 3 = .ok (.ldc2_w 361, 3) := by decide +kernel
theorem dX7_isTick_6 : decode cX7_isTick 6 = .ok (.invokestatic 60, 3) := by decide +kernel
theorem dX7_isTick_9 : decode cX7_isTick 9 = .ok (.ireturn, 1) := by decide +kernel
theorem dX7_programmed_0 : decode cX7_programmed 0 = .ok (.aload_n 0, 1) := by decide +kernel
theorem dX7_programmed_1 : decode cX7_programmed 1 = .ok (.aload_n 0, 1) := by decide +kernel
theorem dX7_programmed_2 : decode cX7_programmed 2 = .ok (.iload_n 1, 1) := by decide +kernel
theorem dX7_programmed_3 : decode cX7_programmed 3 = .ok (.invokevirtual 347, 3) := by decide +kernel
theorem dX7_programmed_6 : decode cX7_programmed 6 = .ok (.iload_n 2, 1) := by decide +kernel
theorem dX7_programmed_7 : decode cX7_programmed 7 = .ok (.invokestatic 363, 3) := by decide +kernel
theorem dX7_programmed_10 : decode cX7_programmed 10 = .ok (.invokevirtual 352, 3) := by decide +kernel
theorem dX7_programmed_13 : decode cX7_programmed 13 = .ok (.ifCond .eq 12, 3) := by decide +kernel
theorem dX7_programmed_16 : decode cX7_programmed 16 = .ok (.aload_n 0, 1) := by decide +kernel
theorem dX7_programmed_17 : decode cX7_programmed 17 = .ok (.iload_n 1, 1) := by decide +kernel
theorem dX7_programmed_18 : decode cX7_programmed 18 = .ok (.iload_n 2, 1) := by decide +kernel
theorem dX7_programmed_19 : decode cX7_programmed 19 = .ok (.invokevirtual 75, 3) := by decide +kernel
theorem dX7_programmed_22 : decode cX7_programmed 22 = .ok (.goto 4, 3) := by decide +kernel
theorem dX7_programmed_25 : decode cX7_programmed 25 = .ok (.iconst 0, 1) := by decide +kernel
theorem dX7_programmed_26 : decode cX7_programmed 26 = .ok (.ireturn, 1) := by decide +kernel
theorem dX7_entry_0 : decode cX7_entry 0 = .ok (.aload_n 0, 1) := by decide +kernel
theorem dX7_entry_1 : decode cX7_entry 1 = .ok (.iload_n 1, 1) := by decide +kernel
theorem dX7_entry_2 : decode cX7_entry 2 = .ok (.invokevirtual 347, 3) := by decide +kernel
theorem dX7_entry_5 : decode cX7_entry 5 = .ok (.istore_n 3, 1) := by decide +kernel
theorem dX7_entry_6 : decode cX7_entry 6 = .ok (.aload_n 0, 1) := by decide +kernel
theorem dX7_entry_7 : decode cX7_entry 7 = .ok (.iload_n 3, 1) := by decide +kernel
theorem dX7_entry_8 : decode cX7_entry 8 = .ok (.iload_n 3, 1) := by decide +kernel
theorem dX7_entry_9 : decode cX7_entry 9 = .ok (.ifCond .eq 24, 3) := by decide +kernel
theorem dX7_entry_12 : decode cX7_entry 12 = .ok (.iload_n 2, 1) := by decide +kernel
theorem dX7_entry_13 : decode cX7_entry 13 = .ok (.i2l, 1) := by decide +kernel
theorem dX7_entry_14 : decode cX7_entry 14 = .ok (.lconst 0, 1) := by decide +kernel
theorem dX7_entry_15 : decode cX7_entry 15 = .ok (.aload_n 0, 1) := by decide +kernel
theorem dX7_entry_16 : decode cX7_entry 16 = .ok (.iload_n 1, 1) := by decide +kernel
theorem dX7_entry_17 : decode cX7_entry 17 = .ok (.invokevirtual 300, 3) := by decide +kernel
theorem dX7_entry_20 : decode cX7_entry 20 = .ok (.iconst 1, 1) := by decide +kernel
theorem dX7_entry_21 : decode cX7_entry 21 = .ok (.isub, 1) := by decide +kernel
theorem dX7_entry_22 : decode cX7_entry 22 = .ok (.i2l, 1) := by decide +kernel
theorem dX7_entry_23 : decode cX7_entry 23 = .ok (.invokestatic 60, 3) := by decide +kernel
theorem dX7_entry_26 : decode cX7_entry 26 = .ok (.ifCond .eq 7, 3) := by decide +kernel
theorem dX7_entry_29 : decode cX7_entry 29 = .ok (.iconst 1, 1) := by decide +kernel
theorem dX7_entry_30 : decode cX7_entry 30 = .ok (.goto 4, 3) := by decide +kernel
theorem dX7_entry_33 : decode cX7_entry 33 = .ok (.iconst 0, 1) := by decide +kernel
theorem dX7_entry_34 : decode cX7_entry 34 = .ok (.invokevirtual 352, 3) := by decide +kernel
theorem dX7_entry_37 : decode cX7_entry 37 = .ok (.ifCond .ne 5, 3) := by decide +kernel
theorem dX7_entry_40 : decode cX7_entry 40 = .ok (.iconst 0, 1) := by decide +kernel
theorem dX7_entry_41 : decode cX7_entry 41 = .ok (.ireturn, 1) := by decide +kernel
theorem dX7_entry_42 : decode cX7_entry 42 = .ok (.iload_n 2, 1) := by decide +kernel
theorem dX7_entry_43 : decode cX7_entry 43 = .ok (.istore 4, 2) := by decide +kernel
theorem dX7_entry_45 : decode cX7_entry 45 = .ok (.iconst 0, 1) := by decide +kernel
theorem dX7_entry_46 : decode cX7_entry 46 = .ok (.istore 5, 2) := by decide +kernel
theorem dX7_entry_48 : decode cX7_entry 48 = .ok (.aload_n 0, 1) := by decide +kernel
theorem dX7_entry_49 : decode cX7_entry 49 = .ok (.iload_n 1, 1) := by decide +kernel
theorem dX7_entry_50 : decode cX7_entry 50 = .ok (.iload 5, 2) := by decide +kernel
theorem dX7_entry_52 : decode cX7_entry 52 = .ok (.invokevirtual 72, 3) := by decide +kernel
theorem dX7_entry_55 : decode cX7_entry 55 = .ok (.ifCond .eq 8, 3) := by decide +kernel
theorem dX7_entry_58 : decode cX7_entry 58 = .ok (.iload 4, 2) := by decide +kernel
theorem dX7_entry_60 : decode cX7_entry 60 = .ok (.ifCond .le 29, 3) := by decide +kernel
theorem dX7_entry_63 : decode cX7_entry 63 = .ok (.iload 4, 2) := by decide +kernel
theorem dX7_entry_65 : decode cX7_entry 65 = .ok (.aload_n 0, 1) := by decide +kernel
theorem dX7_entry_66 : decode cX7_entry 66 = .ok (.iload_n 1, 1) := by decide +kernel
theorem dX7_entry_67 : decode cX7_entry 67 = .ok (.iload 5, 2) := by decide +kernel
theorem dX7_entry_69 : decode cX7_entry 69 = .ok (.invokevirtual 72, 3) := by decide +kernel
theorem dX7_entry_72 : decode cX7_entry 72 = .ok (.ifCond .le 7, 3) := by decide +kernel
theorem dX7_entry_75 : decode cX7_entry 75 = .ok (.iconst 1, 1) := by decide +kernel
theorem dX7_entry_76 : decode cX7_entry 76 = .ok (.goto 4, 3) := by decide +kernel
theorem dX7_entry_79 : decode cX7_entry 79 = .ok (.iconst 0, 1) := by decide +kernel
theorem dX7_entry_80 : decode cX7_entry 80 = .ok (.isub, 1) := by decide +kernel
theorem dX7_entry_81 : decode cX7_entry 81 = .ok (.istore 4, 2) := by decide +kernel
theorem dX7_entry_83 : decode cX7_entry 83 = .ok (.iinc 5 1, 3) := by decide +kernel
theorem dX7_entry_86 : decode cX7_entry 86 = .ok (.goto (-38), 3) := by decide +kernel
theorem dX7_entry_89 : decode cX7_entry 89 = .ok (.sipush 1000, 3) := by decide +kernel
theorem dX7_entry_92 : decode cX7_entry 92 = .ok (.iload 5, 2) := by decide +kernel
theorem dX7_entry_94 : decode cX7_entry 94 = .ok (.imul, 1) := by decide +kernel
theorem dX7_entry_95 : decode cX7_entry 95 = .ok (.aload_n 0, 1) := by decide +kernel
theorem dX7_entry_96 : decode cX7_entry 96 = .ok (.iload_n 1, 1) := by decide +kernel
theorem dX7_entry_97 : decode cX7_entry 97 = .ok (.iload 5, 2) := by decide +kernel
theorem dX7_entry_99 : decode cX7_entry 99 = .ok (.invokevirtual 72, 3) := by decide +kernel
theorem dX7_entry_102 : decode cX7_entry 102 = .ok (.iadd, 1) := by decide +kernel
theorem dX7_entry_103 : decode cX7_entry 103 = .ok (.ireturn, 1) := by decide +kernel
theorem dX7_wanted_0 : decode cX7_wanted 0 = .ok (.aload_n 0, 1) := by decide +kernel
theorem dX7_wanted_1 : decode cX7_wanted 1 = .ok (.aload_n 0, 1) := by decide +kernel
theorem dX7_wanted_2 : decode cX7_wanted 2 = .ok (.iload_n 1, 1) := by decide +kernel
theorem dX7_wanted_3 : decode cX7_wanted 3 = .ok (.invokevirtual 347, 3) := by decide +kernel
theorem dX7_wanted_6 : decode cX7_wanted 6 = .ok (.invokevirtual 155, 3) := by decide +kernel
theorem dX7_wanted_9 : decode cX7_wanted 9 = .ok (.ifCond .eq 11, 3) := by decide +kernel
theorem dX7_wanted_12 : decode cX7_wanted 12 = .ok (.aload_n 0, 1) := by decide +kernel
theorem dX7_wanted_13 : decode cX7_wanted 13 = .ok (.iload_n 1, 1) := by decide +kernel
theorem dX7_wanted_14 : decode cX7_wanted 14 = .ok (.invokevirtual 129, 3) := by decide +kernel
theorem dX7_wanted_17 : decode cX7_wanted 17 = .ok (.goto 4, 3) := by decide +kernel
theorem dX7_wanted_20 : decode cX7_wanted 20 = .ok (.iconst 0, 1) := by decide +kernel
theorem dX7_wanted_21 : decode cX7_wanted 21 = .ok (.ireturn, 1) := by decide +kernel
theorem dX7_why_0 : decode cX7_why 0 = .ok (.aload_n 0, 1) := by decide +kernel
theorem dX7_why_1 : decode cX7_why 1 = .ok (.aload_n 0, 1) := by decide +kernel
theorem dX7_why_2 : decode cX7_why 2 = .ok (.iload_n 1, 1) := by decide +kernel
theorem dX7_why_3 : decode cX7_why 3 = .ok (.invokevirtual 347, 3) := by decide +kernel
theorem dX7_why_6 : decode cX7_why 6 = .ok (.invokevirtual 155, 3) := by decide +kernel
theorem dX7_why_9 : decode cX7_why 9 = .ok (.ifCond .ne 5, 3) := by decide +kernel
theorem dX7_why_12 : decode cX7_why 12 = .ok (.iconst 0, 1) := by decide +kernel
theorem dX7_why_13 : decode cX7_why 13 = .ok (.ireturn, 1) := by decide +kernel
theorem dX7_why_14 : decode cX7_why 14 = .ok (.aload_n 0, 1) := by decide +kernel
theorem dX7_why_15 : decode cX7_why 15 = .ok (.iload_n 1, 1) := by decide +kernel
theorem dX7_why_16 : decode cX7_why 16 = .ok (.iconst 1, 1) := by decide +kernel
theorem dX7_why_17 : decode cX7_why 17 = .ok (.invokevirtual 68, 3) := by decide +kernel
theorem dX7_why_20 : decode cX7_why 20 = .ok (.aload_n 0, 1) := by decide +kernel
theorem dX7_why_21 : decode cX7_why 21 = .ok (.iload_n 1, 1) := by decide +kernel
theorem dX7_why_22 : decode cX7_why 22 = .ok (.invokevirtual 129, 3) := by decide +kernel
theorem dX7_why_25 : decode cX7_why 25 = .ok (.if_icmp .eq 18, 3) := by decide +kernel
theorem dX7_why_28 : decode cX7_why 28 = .ok (.aload_n 0, 1) := by decide +kernel
theorem dX7_why_29 : decode cX7_why 29 = .ok (.iload_n 1, 1) := by decide +kernel
theorem dX7_why_30 : decode cX7_why 30 = .ok (.iconst 2, 1) := by decide +kernel
theorem dX7_why_31 : decode cX7_why 31 = .ok (.invokevirtual 68, 3) := by decide +kernel
theorem dX7_why_34 : decode cX7_why 34 = .ok (.ifCond .le 7, 3) := by decide +kernel
theorem dX7_why_37 : decode cX7_why 37 = .ok (.iconst 0, 1) := by decide +kernel
theorem dX7_why_38 : decode cX7_why 38 = .ok (.goto 4, 3) := by decide +kernel
theorem dX7_why_41 : decode cX7_why 41 = .ok (.iconst 1, 1) := by decide +kernel
theorem dX7_why_42 : decode cX7_why 42 = .ok (.ireturn, 1) := by decide +kernel
theorem dX7_why_43 : decode cX7_why 43 = .ok (.aload_n 0, 1) := by decide +kernel
theorem dX7_why_44 : decode cX7_why 44 = .ok (.iload_n 1, 1) := by decide +kernel
theorem dX7_why_45 : decode cX7_why 45 = .ok (.bipush 7, 2) := by decide +kernel
theorem dX7_why_47 : decode cX7_why 47 = .ok (.invokevirtual 68, 3) := by decide +kernel
theorem dX7_why_50 : decode cX7_why 50 = .ok (.ifCond .le 5, 3) := by decide +kernel
theorem dX7_why_53 : decode cX7_why 53 = .ok (.iconst 2, 1) := by decide +kernel
theorem dX7_why_54 : decode cX7_why 54 = .ok (.ireturn, 1) := by decide +kernel
theorem dX7_why_55 : decode cX7_why 55 = .ok (.aload_n 0, 1) := by decide +kernel
theorem dX7_why_56 : decode cX7_why 56 = .ok (.iload_n 1, 1) := by decide +kernel
theorem dX7_why_57 : decode cX7_why 57 = .ok (.invokevirtual 87, 3) := by decide +kernel
theorem dX7_why_60 : decode cX7_why 60 = .ok (.ifCond .eq 5, 3) := by decide +kernel
theorem dX7_why_63 : decode cX7_why 63 = .ok (.iconst 3, 1) := by decide +kernel
theorem dX7_why_64 : decode cX7_why 64 = .ok (.ireturn, 1) := by decide +kernel
theorem dX7_why_65 : decode cX7_why 65 = .ok (.aload_n 0, 1) := by decide +kernel
theorem dX7_why_66 : decode cX7_why 66 = .ok (.iload_n 1, 1) := by decide +kernel
theorem dX7_why_67 : decode cX7_why 67 = .ok (.invokevirtual 78, 3) := by decide +kernel
theorem dX7_why_70 : decode cX7_why 70 = .ok (.aload_n 0, 1) := by decide +kernel
theorem dX7_why_71 : decode cX7_why 71 = .ok (.iload_n 1, 1) := by decide +kernel
theorem dX7_why_72 : decode cX7_why 72 = .ok (.iconst 0, 1) := by decide +kernel
theorem dX7_why_73 : decode cX7_why 73 = .ok (.invokevirtual 68, 3) := by decide +kernel
theorem dX7_why_76 : decode cX7_why 76 = .ok (.if_icmp .le 7, 3) := by decide +kernel
theorem dX7_why_79 : decode cX7_why 79 = .ok (.iconst 5, 1) := by decide +kernel
theorem dX7_why_80 : decode cX7_why 80 = .ok (.goto 4, 3) := by decide +kernel
theorem dX7_why_83 : decode cX7_why 83 = .ok (.iconst 4, 1) := by decide +kernel
theorem dX7_why_84 : decode cX7_why 84 = .ok (.ireturn, 1) := by decide +kernel
theorem dX7_planned_0 : decode cX7_planned 0 = .ok (.aload_n 0, 1) := by decide +kernel
theorem dX7_planned_1 : decode cX7_planned 1 = .ok (.iload_n 1, 1) := by decide +kernel
theorem dX7_planned_2 : decode cX7_planned 2 = .ok (.i2l, 1) := by decide +kernel
theorem dX7_planned_3 : decode cX7_planned 3 = .ok (.lconst 0, 1) := by decide +kernel
theorem dX7_planned_4 : decode cX7_planned 4 = .ok (.aload_n 0, 1) := by decide +kernel
theorem dX7_planned_5 : decode cX7_planned 5 = .ok (.getfield 17, 3) := by decide +kernel
theorem dX7_planned_8 : decode cX7_planned 8 = .ok (.iconst 3, 1) := by decide +kernel
theorem dX7_planned_9 : decode cX7_planned 9 = .ok (.iaload, 1) := by decide +kernel
theorem dX7_planned_10 : decode cX7_planned 10 = .ok (.iconst 1, 1) := by decide +kernel
theorem dX7_planned_11 : decode cX7_planned 11 = .ok (.isub, 1) := by decide +kernel
theorem dX7_planned_12 : decode cX7_planned 12 = .ok (.i2l, 1) := by decide +kernel
theorem dX7_planned_13 : decode cX7_planned 13 = .ok (.invokestatic 60, 3) := by decide +kernel
theorem dX7_planned_16 : decode cX7_planned 16 = .ok (.iload_n 2, 1) := by decide +kernel
theorem dX7_planned_17 : decode cX7_planned 17 = .ok (.i2l, 1) := by decide +kernel
theorem dX7_planned_18 : decode cX7_planned 18 = .ok (.lconst 0, 1) := by decide +kernel
theorem dX7_planned_19 : decode cX7_planned 19 = .ok (.ldc2_w 366, 3) := by decide +kernel
theorem dX7_planned_22 : decode cX7_planned 22 = .ok (.invokestatic 60, 3) := by decide +kernel
theorem dX7_planned_25 : decode cX7_planned 25 = .ok (.invokevirtual 352, 3) := by decide +kernel
theorem dX7_planned_28 : decode cX7_planned 28 = .ok (.ifCond .eq 12, 3) := by decide +kernel
theorem dX7_planned_31 : decode cX7_planned 31 = .ok (.aload_n 0, 1) := by decide +kernel
theorem dX7_planned_32 : decode cX7_planned 32 = .ok (.iload_n 1, 1) := by decide +kernel
theorem dX7_planned_33 : decode cX7_planned 33 = .ok (.iload_n 2, 1) := by decide +kernel
theorem dX7_planned_34 : decode cX7_planned 34 = .ok (.invokevirtual 132, 3) := by decide +kernel
theorem dX7_planned_37 : decode cX7_planned 37 = .ok (.goto 4, 3) := by decide +kernel
theorem dX7_planned_40 : decode cX7_planned 40 = .ok (.iconst 0, 1) := by decide +kernel
theorem dX7_planned_41 : decode cX7_planned 41 = .ok (.ireturn, 1) := by decide +kernel
theorem dX7_areTicks_0 : decode cX7_areTicks 0 = .ok (.iload_n 0, 1) := by decide +kernel
theorem dX7_areTicks_1 : decode cX7_areTicks 1 = .ok (.i2l, 1) := by decide +kernel
theorem dX7_areTicks_2 : decode cX7_areTicks 2 = .ok (.lconst 0, 1) := by decide +kernel
theorem dX7_areTicks_3 : decode cX7_areTicks 3 = .ok (.ldc2_w 368, 3) := by decide +kernel
theorem dX7_areTicks_6 : decode cX7_areTicks 6 = .ok (.invokestatic 60, 3) := by decide +kernel
theorem dX7_areTicks_9 : decode cX7_areTicks 9 = .ok (.ireturn, 1) := by decide +kernel
theorem dX7_tempIn_0 : decode cX7_tempIn 0 = .ok (.aload_n 0, 1) := by decide +kernel
theorem dX7_tempIn_1 : decode cX7_tempIn 1 = .ok (.aload_n 0, 1) := by decide +kernel
theorem dX7_tempIn_2 : decode cX7_tempIn 2 = .ok (.iload_n 1, 1) := by decide +kernel
theorem dX7_tempIn_3 : decode cX7_tempIn 3 = .ok (.invokevirtual 347, 3) := by decide +kernel
theorem dX7_tempIn_6 : decode cX7_tempIn 6 = .ok (.iload_n 2, 1) := by decide +kernel
theorem dX7_tempIn_7 : decode cX7_tempIn 7 = .ok (.invokestatic 370, 3) := by decide +kernel
theorem dX7_tempIn_10 : decode cX7_tempIn 10 = .ok (.invokevirtual 352, 3) := by decide +kernel
theorem dX7_tempIn_13 : decode cX7_tempIn 13 = .ok (.ifCond .ne 5, 3) := by decide +kernel
theorem dX7_tempIn_16 : decode cX7_tempIn 16 = .ok (.iconst 0, 1) := by decide +kernel
theorem dX7_tempIn_17 : decode cX7_tempIn 17 = .ok (.ireturn, 1) := by decide +kernel
theorem dX7_tempIn_18 : decode cX7_tempIn 18 = .ok (.aload_n 0, 1) := by decide +kernel
theorem dX7_tempIn_19 : decode cX7_tempIn 19 = .ok (.invokevirtual 373, 3) := by decide +kernel
theorem dX7_tempIn_22 : decode cX7_tempIn 22 = .ok (.aload_n 0, 1) := by decide +kernel
theorem dX7_tempIn_23 : decode cX7_tempIn 23 = .ok (.aload_n 0, 1) := by decide +kernel
theorem dX7_tempIn_24 : decode cX7_tempIn 24 = .ok (.iload_n 1, 1) := by decide +kernel
theorem dX7_tempIn_25 : decode cX7_tempIn 25 = .ok (.iconst 0, 1) := by decide +kernel
theorem dX7_tempIn_26 : decode cX7_tempIn 26 = .ok (.iload_n 2, 1) := by decide +kernel
theorem dX7_tempIn_27 : decode cX7_tempIn 27 = .ok (.invokevirtual 376, 3) := by decide +kernel
theorem dX7_tempIn_30 : decode cX7_tempIn 30 = .ok (.invokevirtual 379, 3) := by decide +kernel
theorem dX7_tempIn_33 : decode cX7_tempIn 33 = .ok (.ireturn, 1) := by decide +kernel
theorem dX7_valveIn_0 : decode cX7_valveIn 0 = .ok (.aload_n 0, 1) := by decide +kernel
theorem dX7_valveIn_1 : decode cX7_valveIn 1 = .ok (.aload_n 0, 1) := by decide +kernel
theorem dX7_valveIn_2 : decode cX7_valveIn 2 = .ok (.iload_n 1, 1) := by decide +kernel
theorem dX7_valveIn_3 : decode cX7_valveIn 3 = .ok (.invokevirtual 347, 3) := by decide +kernel
theorem dX7_valveIn_6 : decode cX7_valveIn 6 = .ok (.iload_n 2, 1) := by decide +kernel
theorem dX7_valveIn_7 : decode cX7_valveIn 7 = .ok (.invokestatic 370, 3) := by decide +kernel
theorem dX7_valveIn_10 : decode cX7_valveIn 10 = .ok (.invokevirtual 352, 3) := by decide +kernel
theorem dX7_valveIn_13 : decode cX7_valveIn 13 = .ok (.ifCond .ne 5, 3) := by decide +kernel
theorem dX7_valveIn_16 : decode cX7_valveIn 16 = .ok (.iconst 0, 1) := by decide +kernel
theorem dX7_valveIn_17 : decode cX7_valveIn 17 = .ok (.ireturn, 1) := by decide +kernel
theorem dX7_valveIn_18 : decode cX7_valveIn 18 = .ok (.aload_n 0, 1) := by decide +kernel
theorem dX7_valveIn_19 : decode cX7_valveIn 19 = .ok (.invokevirtual 373, 3) := by decide +kernel
theorem dX7_valveIn_22 : decode cX7_valveIn 22 = .ok (.aload_n 0, 1) := by decide +kernel
theorem dX7_valveIn_23 : decode cX7_valveIn 23 = .ok (.aload_n 0, 1) := by decide +kernel
theorem dX7_valveIn_24 : decode cX7_valveIn 24 = .ok (.iload_n 1, 1) := by decide +kernel
theorem dX7_valveIn_25 : decode cX7_valveIn 25 = .ok (.iconst 1, 1) := by decide +kernel
theorem dX7_valveIn_26 : decode cX7_valveIn 26 = .ok (.iload_n 2, 1) := by decide +kernel
theorem dX7_valveIn_27 : decode cX7_valveIn 27 = .ok (.invokevirtual 376, 3) := by decide +kernel
theorem dX7_valveIn_30 : decode cX7_valveIn 30 = .ok (.invokevirtual 379, 3) := by decide +kernel
theorem dX7_valveIn_33 : decode cX7_valveIn 33 = .ok (.ireturn, 1) := by decide +kernel
theorem dX7_warmIn_0 : decode cX7_warmIn 0 = .ok (.aload_n 0, 1) := by decide +kernel
theorem dX7_warmIn_1 : decode cX7_warmIn 1 = .ok (.aload_n 0, 1) := by decide +kernel
theorem dX7_warmIn_2 : decode cX7_warmIn 2 = .ok (.iload_n 1, 1) := by decide +kernel
theorem dX7_warmIn_3 : decode cX7_warmIn 3 = .ok (.invokevirtual 347, 3) := by decide +kernel
theorem dX7_warmIn_6 : decode cX7_warmIn 6 = .ok (.invokevirtual 155, 3) := by decide +kernel
theorem dX7_warmIn_9 : decode cX7_warmIn 9 = .ok (.ifCond .ne 5, 3) := by decide +kernel
theorem dX7_warmIn_12 : decode cX7_warmIn 12 = .ok (.iconst 0, 1) := by decide +kernel
theorem dX7_warmIn_13 : decode cX7_warmIn 13 = .ok (.ireturn, 1) := by decide +kernel
theorem dX7_warmIn_14 : decode cX7_warmIn 14 = .ok (.aload_n 0, 1) := by decide +kernel
theorem dX7_warmIn_15 : decode cX7_warmIn 15 = .ok (.invokevirtual 373, 3) := by decide +kernel
theorem dX7_warmIn_18 : decode cX7_warmIn 18 = .ok (.iconst 0, 1) := by decide +kernel
theorem dX7_warmIn_19 : decode cX7_warmIn 19 = .ok (.istore_n 2, 1) := by decide +kernel
theorem dX7_warmIn_20 : decode cX7_warmIn 20 = .ok (.iload_n 2, 1) := by decide +kernel
theorem dX7_warmIn_21 : decode cX7_warmIn 21 = .ok (.sipush 500, 3) := by decide +kernel
theorem dX7_warmIn_24 : decode cX7_warmIn 24 = .ok (.if_icmp .gt 33, 3) := by decide +kernel
theorem dX7_warmIn_27 : decode cX7_warmIn 27 = .ok (.aload_n 0, 1) := by decide +kernel
theorem dX7_warmIn_28 : decode cX7_warmIn 28 = .ok (.iload_n 1, 1) := by decide +kernel
theorem dX7_warmIn_29 : decode cX7_warmIn 29 = .ok (.iconst 0, 1) := by decide +kernel
theorem dX7_warmIn_30 : decode cX7_warmIn 30 = .ok (.invokevirtual 68, 3) := by decide +kernel
theorem dX7_warmIn_33 : decode cX7_warmIn 33 = .ok (.aload_n 0, 1) := by decide +kernel
theorem dX7_warmIn_34 : decode cX7_warmIn 34 = .ok (.iload_n 1, 1) := by decide +kernel
theorem dX7_warmIn_35 : decode cX7_warmIn 35 = .ok (.invokevirtual 78, 3) := by decide +kernel
theorem dX7_warmIn_38 : decode cX7_warmIn 38 = .ok (.if_icmp .lt 9, 3) := by decide +kernel
theorem dX7_warmIn_41 : decode cX7_warmIn 41 = .ok (.aload_n 0, 1) := by decide +kernel
theorem dX7_warmIn_42 : decode cX7_warmIn 42 = .ok (.iload_n 2, 1) := by decide +kernel
theorem dX7_warmIn_43 : decode cX7_warmIn 43 = .ok (.invokevirtual 379, 3) := by decide +kernel
theorem dX7_warmIn_46 : decode cX7_warmIn 46 = .ok (.ireturn, 1) := by decide +kernel
theorem dX7_warmIn_47 : decode cX7_warmIn 47 = .ok (.aload_n 0, 1) := by decide +kernel
theorem dX7_warmIn_48 : decode cX7_warmIn 48 = .ok (.invokevirtual 144, 3) := by decide +kernel
theorem dX7_warmIn_51 : decode cX7_warmIn 51 = .ok (.iinc 2 1, 3) := by decide +kernel
theorem dX7_warmIn_54 : decode cX7_warmIn 54 = .ok (.goto (-34), 3) := by decide +kernel
theorem dX7_warmIn_57 : decode cX7_warmIn 57 = .ok (.aload_n 0, 1) := by decide +kernel
theorem dX7_warmIn_58 : decode cX7_warmIn 58 = .ok (.iconst (-1), 1) := by decide +kernel
theorem dX7_warmIn_59 : decode cX7_warmIn 59 = .ok (.invokevirtual 379, 3) := by decide +kernel
theorem dX7_warmIn_62 : decode cX7_warmIn 62 = .ok (.ireturn, 1) := by decide +kernel
theorem dX7_emptyIn_0 : decode cX7_emptyIn 0 = .ok (.aload_n 0, 1) := by decide +kernel
theorem dX7_emptyIn_1 : decode cX7_emptyIn 1 = .ok (.aload_n 0, 1) := by decide +kernel
theorem dX7_emptyIn_2 : decode cX7_emptyIn 2 = .ok (.iload_n 1, 1) := by decide +kernel
theorem dX7_emptyIn_3 : decode cX7_emptyIn 3 = .ok (.invokevirtual 347, 3) := by decide +kernel
theorem dX7_emptyIn_6 : decode cX7_emptyIn 6 = .ok (.invokevirtual 155, 3) := by decide +kernel
theorem dX7_emptyIn_9 : decode cX7_emptyIn 9 = .ok (.ifCond .ne 5, 3) := by decide +kernel
theorem dX7_emptyIn_12 : decode cX7_emptyIn 12 = .ok (.iconst 0, 1) := by decide +kernel
theorem dX7_emptyIn_13 : decode cX7_emptyIn 13 = .ok (.ireturn, 1) := by decide +kernel
theorem dX7_emptyIn_14 : decode cX7_emptyIn 14 = .ok (.aload_n 0, 1) := by decide +kernel
theorem dX7_emptyIn_15 : decode cX7_emptyIn 15 = .ok (.invokevirtual 373, 3) := by decide +kernel
theorem dX7_emptyIn_18 : decode cX7_emptyIn 18 = .ok (.iconst 0, 1) := by decide +kernel
theorem dX7_emptyIn_19 : decode cX7_emptyIn 19 = .ok (.istore_n 2, 1) := by decide +kernel
theorem dX7_emptyIn_20 : decode cX7_emptyIn 20 = .ok (.iload_n 2, 1) := by decide +kernel
theorem dX7_emptyIn_21 : decode cX7_emptyIn 21 = .ok (.sipush 500, 3) := by decide +kernel
theorem dX7_emptyIn_24 : decode cX7_emptyIn 24 = .ok (.if_icmp .gt 28, 3) := by decide +kernel
theorem dX7_emptyIn_27 : decode cX7_emptyIn 27 = .ok (.aload_n 0, 1) := by decide +kernel
theorem dX7_emptyIn_28 : decode cX7_emptyIn 28 = .ok (.iload_n 1, 1) := by decide +kernel
theorem dX7_emptyIn_29 : decode cX7_emptyIn 29 = .ok (.iconst 2, 1) := by decide +kernel
theorem dX7_emptyIn_30 : decode cX7_emptyIn 30 = .ok (.invokevirtual 68, 3) := by decide +kernel
theorem dX7_emptyIn_33 : decode cX7_emptyIn 33 = .ok (.ifCond .ne 9, 3) := by decide +kernel
theorem dX7_emptyIn_36 : decode cX7_emptyIn 36 = .ok (.aload_n 0, 1) := by decide +kernel
theorem dX7_emptyIn_37 : decode cX7_emptyIn 37 = .ok (.iload_n 2, 1) := by decide +kernel
theorem dX7_emptyIn_38 : decode cX7_emptyIn 38 = .ok (.invokevirtual 379, 3) := by decide +kernel
theorem dX7_emptyIn_41 : decode cX7_emptyIn 41 = .ok (.ireturn, 1) := by decide +kernel
theorem dX7_emptyIn_42 : decode cX7_emptyIn 42 = .ok (.aload_n 0, 1) := by decide +kernel
theorem dX7_emptyIn_43 : decode cX7_emptyIn 43 = .ok (.invokevirtual 144, 3) := by decide +kernel
theorem dX7_emptyIn_46 : decode cX7_emptyIn 46 = .ok (.iinc 2 1, 3) := by decide +kernel
theorem dX7_emptyIn_49 : decode cX7_emptyIn 49 = .ok (.goto (-29), 3) := by decide +kernel
theorem dX7_emptyIn_52 : decode cX7_emptyIn 52 = .ok (.aload_n 0, 1) := by decide +kernel
theorem dX7_emptyIn_53 : decode cX7_emptyIn 53 = .ok (.iconst (-1), 1) := by decide +kernel
theorem dX7_emptyIn_54 : decode cX7_emptyIn 54 = .ok (.invokevirtual 379, 3) := by decide +kernel
theorem dX7_emptyIn_57 : decode cX7_emptyIn 57 = .ok (.ireturn, 1) := by decide +kernel
theorem dX7_exerciseIn_0 : decode cX7_exerciseIn 0 = .ok (.aload_n 0, 1) := by decide +kernel
theorem dX7_exerciseIn_1 : decode cX7_exerciseIn 1 = .ok (.aload_n 0, 1) := by decide +kernel
theorem dX7_exerciseIn_2 : decode cX7_exerciseIn 2 = .ok (.iload_n 1, 1) := by decide +kernel
theorem dX7_exerciseIn_3 : decode cX7_exerciseIn 3 = .ok (.invokevirtual 347, 3) := by decide +kernel
theorem dX7_exerciseIn_6 : decode cX7_exerciseIn 6 = .ok (.invokevirtual 155, 3) := by decide +kernel
theorem dX7_exerciseIn_9 : decode cX7_exerciseIn 9 = .ok (.ifCond .ne 5, 3) := by decide +kernel
theorem dX7_exerciseIn_12 : decode cX7_exerciseIn 12 = .ok (.iconst 0, 1) := by decide +kernel
theorem dX7_exerciseIn_13 : decode cX7_exerciseIn 13 = .ok (.ireturn, 1) := by decide +kernel
theorem dX7_exerciseIn_14 : decode cX7_exerciseIn 14 = .ok (.iconst 1, 1) := by decide +kernel
theorem dX7_exerciseIn_15 : decode cX7_exerciseIn 15 = .ok (.istore_n 2, 1) := by decide +kernel
theorem dX7_exerciseIn_16 : decode cX7_exerciseIn 16 = .ok (.aload_n 0, 1) := by decide +kernel
theorem dX7_exerciseIn_17 : decode cX7_exerciseIn 17 = .ok (.iload_n 1, 1) := by decide +kernel
theorem dX7_exerciseIn_18 : decode cX7_exerciseIn 18 = .ok (.aload_n 0, 1) := by decide +kernel
theorem dX7_exerciseIn_19 : decode cX7_exerciseIn 19 = .ok (.getfield 17, 3) := by decide +kernel
theorem dX7_exerciseIn_22 : decode cX7_exerciseIn 22 = .ok (.iconst 1, 1) := by decide +kernel
theorem dX7_exerciseIn_23 : decode cX7_exerciseIn 23 = .ok (.iaload, 1) := by decide +kernel
theorem dX7_exerciseIn_24 : decode cX7_exerciseIn 24 = .ok (.iload_n 2, 1) := by decide +kernel
theorem dX7_exerciseIn_25 : decode cX7_exerciseIn 25 = .ok (.iadd, 1) := by decide +kernel
theorem dX7_exerciseIn_26 : decode cX7_exerciseIn 26 = .ok (.invokevirtual 122, 3) := by decide +kernel
theorem dX7_exerciseIn_29 : decode cX7_exerciseIn 29 = .ok (.ifCond .ne 9, 3) := by decide +kernel
theorem dX7_exerciseIn_32 : decode cX7_exerciseIn 32 = .ok (.iinc 2 1, 3) := by decide +kernel
theorem dX7_exerciseIn_35 : decode cX7_exerciseIn 35 = .ok (.goto (-19), 3) := by decide +kernel
theorem dX7_exerciseIn_38 : decode cX7_exerciseIn 38 = .ok (.iload_n 2, 1) := by decide +kernel
theorem dX7_exerciseIn_39 : decode cX7_exerciseIn 39 = .ok (.ireturn, 1) := by decide +kernel
theorem dX7_lack_0 : decode cX7_lack 0 = .ok (.aload_n 0, 1) := by decide +kernel
theorem dX7_lack_1 : decode cX7_lack 1 = .ok (.aload_n 0, 1) := by decide +kernel
theorem dX7_lack_2 : decode cX7_lack 2 = .ok (.iload_n 1, 1) := by decide +kernel
theorem dX7_lack_3 : decode cX7_lack 3 = .ok (.invokevirtual 347, 3) := by decide +kernel
theorem dX7_lack_6 : decode cX7_lack 6 = .ok (.iload_n 2, 1) := by decide +kernel
theorem dX7_lack_7 : decode cX7_lack 7 = .ok (.invokestatic 370, 3) := by decide +kernel
theorem dX7_lack_10 : decode cX7_lack 10 = .ok (.invokevirtual 352, 3) := by decide +kernel
theorem dX7_lack_13 : decode cX7_lack 13 = .ok (.ifCond .ne 5, 3) := by decide +kernel
theorem dX7_lack_16 : decode cX7_lack 16 = .ok (.iconst 0, 1) := by decide +kernel
theorem dX7_lack_17 : decode cX7_lack 17 = .ok (.ireturn, 1) := by decide +kernel
theorem dX7_lack_18 : decode cX7_lack 18 = .ok (.aload_n 0, 1) := by decide +kernel
theorem dX7_lack_19 : decode cX7_lack 19 = .ok (.invokevirtual 373, 3) := by decide +kernel
theorem dX7_lack_22 : decode cX7_lack 22 = .ok (.aload_n 0, 1) := by decide +kernel
theorem dX7_lack_23 : decode cX7_lack 23 = .ok (.aload_n 0, 1) := by decide +kernel
theorem dX7_lack_24 : decode cX7_lack 24 = .ok (.iload_n 1, 1) := by decide +kernel
theorem dX7_lack_25 : decode cX7_lack 25 = .ok (.iload_n 2, 1) := by decide +kernel
theorem dX7_lack_26 : decode cX7_lack 26 = .ok (.invokevirtual 382, 3) := by decide +kernel
theorem dX7_lack_29 : decode cX7_lack 29 = .ok (.invokevirtual 379, 3) := by decide +kernel
theorem dX7_lack_32 : decode cX7_lack 32 = .ok (.ireturn, 1) := by decide +kernel
theorem dX7_heatIn_0 : decode cX7_heatIn 0 = .ok (.aload_n 0, 1) := by decide +kernel
theorem dX7_heatIn_1 : decode cX7_heatIn 1 = .ok (.iload_n 1, 1) := by decide +kernel
theorem dX7_heatIn_2 : decode cX7_heatIn 2 = .ok (.invokestatic 370, 3) := by decide +kernel
theorem dX7_heatIn_5 : decode cX7_heatIn 5 = .ok (.invokevirtual 155, 3) := by decide +kernel
theorem dX7_heatIn_8 : decode cX7_heatIn 8 = .ok (.ifCond .ne 5, 3) := by decide +kernel
theorem dX7_heatIn_11 : decode cX7_heatIn 11 = .ok (.iconst 0, 1) := by decide +kernel
theorem dX7_heatIn_12 : decode cX7_heatIn 12 = .ok (.ireturn, 1) := by decide +kernel
theorem dX7_heatIn_13 : decode cX7_heatIn 13 = .ok (.aload_n 0, 1) := by decide +kernel
theorem dX7_heatIn_14 : decode cX7_heatIn 14 = .ok (.invokevirtual 373, 3) := by decide +kernel
theorem dX7_heatIn_17 : decode cX7_heatIn 17 = .ok (.aload_n 0, 1) := by decide +kernel
theorem dX7_heatIn_18 : decode cX7_heatIn 18 = .ok (.bipush 10, 2) := by decide +kernel
theorem dX7_heatIn_20 : decode cX7_heatIn 20 = .ok (.invokevirtual 385, 3) := by decide +kernel
theorem dX7_heatIn_23 : decode cX7_heatIn 23 = .ok (.istore_n 2, 1) := by decide +kernel
theorem dX7_heatIn_24 : decode cX7_heatIn 24 = .ok (.aload_n 0, 1) := by decide +kernel
theorem dX7_heatIn_25 : decode cX7_heatIn 25 = .ok (.iload_n 1, 1) := by decide +kernel
theorem dX7_heatIn_26 : decode cX7_heatIn 26 = .ok (.invokevirtual 147, 3) := by decide +kernel
theorem dX7_heatIn_29 : decode cX7_heatIn 29 = .ok (.aload_n 0, 1) := by decide +kernel
theorem dX7_heatIn_30 : decode cX7_heatIn 30 = .ok (.aload_n 0, 1) := by decide +kernel
theorem dX7_heatIn_31 : decode cX7_heatIn 31 = .ok (.bipush 10, 2) := by decide +kernel
theorem dX7_heatIn_33 : decode cX7_heatIn 33 = .ok (.invokevirtual 385, 3) := by decide +kernel
theorem dX7_heatIn_36 : decode cX7_heatIn 36 = .ok (.iload_n 2, 1) := by decide +kernel
theorem dX7_heatIn_37 : decode cX7_heatIn 37 = .ok (.isub, 1) := by decide +kernel
theorem dX7_heatIn_38 : decode cX7_heatIn 38 = .ok (.invokevirtual 379, 3) := by decide +kernel
theorem dX7_heatIn_41 : decode cX7_heatIn 41 = .ok (.ireturn, 1) := by decide +kernel
theorem dX7_bestGain_0 : decode cX7_bestGain 0 = .ok (.aload_n 0, 1) := by decide +kernel
theorem dX7_bestGain_1 : decode cX7_bestGain 1 = .ok (.aload_n 0, 1) := by decide +kernel
theorem dX7_bestGain_2 : decode cX7_bestGain 2 = .ok (.iload_n 1, 1) := by decide +kernel
theorem dX7_bestGain_3 : decode cX7_bestGain 3 = .ok (.invokevirtual 347, 3) := by decide +kernel
theorem dX7_bestGain_6 : decode cX7_bestGain 6 = .ok (.invokevirtual 155, 3) := by decide +kernel
theorem dX7_bestGain_9 : decode cX7_bestGain 9 = .ok (.ifCond .ne 5, 3) := by decide +kernel
theorem dX7_bestGain_12 : decode cX7_bestGain 12 = .ok (.iconst 0, 1) := by decide +kernel
theorem dX7_bestGain_13 : decode cX7_bestGain 13 = .ok (.ireturn, 1) := by decide +kernel
theorem dX7_bestGain_14 : decode cX7_bestGain 14 = .ok (.iconst 0, 1) := by decide +kernel
theorem dX7_bestGain_15 : decode cX7_bestGain 15 = .ok (.istore_n 2, 1) := by decide +kernel
theorem dX7_bestGain_16 : decode cX7_bestGain 16 = .ok (.ldc_w 390, 3) := by decide +kernel
theorem dX7_bestGain_19 : decode cX7_bestGain 19 = .ok (.istore_n 3, 1) := by decide +kernel
theorem dX7_bestGain_20 : decode cX7_bestGain 20 = .ok (.iconst 1, 1) := by decide +kernel
theorem dX7_bestGain_21 : decode cX7_bestGain 21 = .ok (.istore 4, 2) := by decide +kernel
theorem dX7_bestGain_23 : decode cX7_bestGain 23 = .ok (.iload 4, 2) := by decide +kernel
theorem dX7_bestGain_25 : decode cX7_bestGain 25 = .ok (.bipush 50, 2) := by decide +kernel
theorem dX7_bestGain_27 : decode cX7_bestGain 27 = .ok (.if_icmp .gt 55, 3) := by decide +kernel
theorem dX7_bestGain_30 : decode cX7_bestGain 30 = .ok (.aload_n 0, 1) := by decide +kernel
theorem dX7_bestGain_31 : decode cX7_bestGain 31 = .ok (.invokevirtual 373, 3) := by decide +kernel
theorem dX7_bestGain_34 : decode cX7_bestGain 34 = .ok (.aload_n 0, 1) := by decide +kernel
theorem dX7_bestGain_35 : decode cX7_bestGain 35 = .ok (.getfield 17, 3) := by decide +kernel
theorem dX7_bestGain_38 : decode cX7_bestGain 38 = .ok (.bipush 8, 2) := by decide +kernel
theorem dX7_bestGain_40 : decode cX7_bestGain 40 = .ok (.iload 4, 2) := by decide +kernel
theorem dX7_bestGain_42 : decode cX7_bestGain 42 = .ok (.iastore, 1) := by decide +kernel
theorem dX7_bestGain_43 : decode cX7_bestGain 43 = .ok (.aload_n 0, 1) := by decide +kernel
theorem dX7_bestGain_44 : decode cX7_bestGain 44 = .ok (.aload_n 0, 1) := by decide +kernel
theorem dX7_bestGain_45 : decode cX7_bestGain 45 = .ok (.iload_n 1, 1) := by decide +kernel
theorem dX7_bestGain_46 : decode cX7_bestGain 46 = .ok (.bipush 48, 2) := by decide +kernel
theorem dX7_bestGain_48 : decode cX7_bestGain 48 = .ok (.invokevirtual 382, 3) := by decide +kernel
theorem dX7_bestGain_51 : decode cX7_bestGain 51 = .ok (.invokevirtual 379, 3) := by decide +kernel
theorem dX7_bestGain_54 : decode cX7_bestGain 54 = .ok (.istore 5, 2) := by decide +kernel
theorem dX7_bestGain_56 : decode cX7_bestGain 56 = .ok (.iload 5, 2) := by decide +kernel
theorem dX7_bestGain_58 : decode cX7_bestGain 58 = .ok (.iload_n 3, 1) := by decide +kernel
theorem dX7_bestGain_59 : decode cX7_bestGain 59 = .ok (.if_icmp .ge 8, 3) := by decide +kernel
theorem dX7_bestGain_62 : decode cX7_bestGain 62 = .ok (.iload 4, 2) := by decide +kernel
theorem dX7_bestGain_64 : decode cX7_bestGain 64 = .ok (.goto 4, 3) := by decide +kernel
theorem dX7_bestGain_67 : decode cX7_bestGain 67 = .ok (.iload_n 2, 1) := by decide +kernel
theorem dX7_bestGain_68 : decode cX7_bestGain 68 = .ok (.istore_n 2, 1) := by decide +kernel
theorem dX7_bestGain_69 : decode cX7_bestGain 69 = .ok (.iload_n 3, 1) := by decide +kernel
theorem dX7_bestGain_70 : decode cX7_bestGain 70 = .ok (.iload 5, 2) := by decide +kernel
theorem dX7_bestGain_72 : decode cX7_bestGain 72 = .ok (.invokestatic 100, 3) := by decide +kernel
theorem dX7_bestGain_75 : decode cX7_bestGain 75 = .ok (.istore_n 3, 1) := by decide +kernel
theorem dX7_bestGain_76 : decode cX7_bestGain 76 = .ok (.iinc 4 1, 3) := by decide +kernel
theorem dX7_bestGain_79 : decode cX7_bestGain 79 = .ok (.goto (-56), 3) := by decide +kernel
theorem dX7_bestGain_82 : decode cX7_bestGain 82 = .ok (.iload_n 2, 1) := by decide +kernel
theorem dX7_bestGain_83 : decode cX7_bestGain 83 = .ok (.ireturn, 1) := by decide +kernel
theorem dX7_isOutside_0 : decode cX7_isOutside 0 = .ok (.iload_n 0, 1) := by decide +kernel
theorem dX7_isOutside_1 : decode cX7_isOutside 1 = .ok (.i2l, 1) := by decide +kernel
theorem dX7_isOutside_2 : decode cX7_isOutside 2 = .ok (.ldc2_w 391, 3) := by decide +kernel
theorem dX7_isOutside_5 : decode cX7_isOutside 5 = .ok (.ldc2_w 393, 3) := by decide +kernel
theorem dX7_isOutside_8 : decode cX7_isOutside 8 = .ok (.invokestatic 60, 3) := by decide +kernel
theorem dX7_isOutside_11 : decode cX7_isOutside 11 = .ok (.ireturn, 1) := by decide +kernel
theorem dX7_tempIf_0 : decode cX7_tempIf 0 = .ok (.aload_n 0, 1) := by decide +kernel
theorem dX7_tempIf_1 : decode cX7_tempIf 1 = .ok (.aload_n 0, 1) := by decide +kernel
theorem dX7_tempIf_2 : decode cX7_tempIf 2 = .ok (.iload_n 1, 1) := by decide +kernel
theorem dX7_tempIf_3 : decode cX7_tempIf 3 = .ok (.invokevirtual 347, 3) := by decide +kernel
theorem dX7_tempIf_6 : decode cX7_tempIf 6 = .ok (.iload_n 2, 1) := by decide +kernel
theorem dX7_tempIf_7 : decode cX7_tempIf 7 = .ok (.invokestatic 395, 3) := by decide +kernel
theorem dX7_tempIf_10 : decode cX7_tempIf 10 = .ok (.ifCond .eq 14, 3) := by decide +kernel
theorem dX7_tempIf_13 : decode cX7_tempIf 13 = .ok (.iload_n 3, 1) := by decide +kernel
theorem dX7_tempIf_14 : decode cX7_tempIf 14 = .ok (.invokestatic 370, 3) := by decide +kernel
theorem dX7_tempIf_17 : decode cX7_tempIf 17 = .ok (.ifCond .eq 7, 3) := by decide +kernel
theorem dX7_tempIf_20 : decode cX7_tempIf 20 = .ok (.iconst 1, 1) := by decide +kernel
theorem dX7_tempIf_21 : decode cX7_tempIf 21 = .ok (.goto 4, 3) := by decide +kernel
theorem dX7_tempIf_24 : decode cX7_tempIf 24 = .ok (.iconst 0, 1) := by decide +kernel
theorem dX7_tempIf_25 : decode cX7_tempIf 25 = .ok (.invokevirtual 352, 3) := by decide +kernel
theorem dX7_tempIf_28 : decode cX7_tempIf 28 = .ok (.ifCond .ne 5, 3) := by decide +kernel
theorem dX7_tempIf_31 : decode cX7_tempIf 31 = .ok (.iconst 0, 1) := by decide +kernel
theorem dX7_tempIf_32 : decode cX7_tempIf 32 = .ok (.ireturn, 1) := by decide +kernel
theorem dX7_tempIf_33 : decode cX7_tempIf 33 = .ok (.aload_n 0, 1) := by decide +kernel
theorem dX7_tempIf_34 : decode cX7_tempIf 34 = .ok (.invokevirtual 373, 3) := by decide +kernel
theorem dX7_tempIf_37 : decode cX7_tempIf 37 = .ok (.aload_n 0, 1) := by decide +kernel
theorem dX7_tempIf_38 : decode cX7_tempIf 38 = .ok (.getfield 17, 3) := by decide +kernel
theorem dX7_tempIf_41 : decode cX7_tempIf 41 = .ok (.iconst 2, 1) := by decide +kernel
theorem dX7_tempIf_42 : decode cX7_tempIf 42 = .ok (.iload_n 2, 1) := by decide +kernel
theorem dX7_tempIf_43 : decode cX7_tempIf 43 = .ok (.iastore, 1) := by decide +kernel
theorem dX7_tempIf_44 : decode cX7_tempIf 44 = .ok (.aload_n 0, 1) := by decide +kernel
theorem dX7_tempIf_45 : decode cX7_tempIf 45 = .ok (.aload_n 0, 1) := by decide +kernel
theorem dX7_tempIf_46 : decode cX7_tempIf 46 = .ok (.iload_n 1, 1) := by decide +kernel
theorem dX7_tempIf_47 : decode cX7_tempIf 47 = .ok (.iconst 0, 1) := by decide +kernel
theorem dX7_tempIf_48 : decode cX7_tempIf 48 = .ok (.iload_n 3, 1) := by decide +kernel
theorem dX7_tempIf_49 : decode cX7_tempIf 49 = .ok (.invokevirtual 376, 3) := by decide +kernel
theorem dX7_tempIf_52 : decode cX7_tempIf 52 = .ok (.invokevirtual 379, 3) := by decide +kernel
theorem dX7_tempIf_55 : decode cX7_tempIf 55 = .ok (.ireturn, 1) := by decide +kernel
theorem dX7_coldBy_0 : decode cX7_coldBy 0 = .ok (.aload_n 0, 1) := by decide +kernel
theorem dX7_coldBy_1 : decode cX7_coldBy 1 = .ok (.aload_n 0, 1) := by decide +kernel
theorem dX7_coldBy_2 : decode cX7_coldBy 2 = .ok (.iload_n 1, 1) := by decide +kernel
theorem dX7_coldBy_3 : decode cX7_coldBy 3 = .ok (.invokevirtual 347, 3) := by decide +kernel
theorem dX7_coldBy_6 : decode cX7_coldBy 6 = .ok (.iload_n 2, 1) := by decide +kernel
theorem dX7_coldBy_7 : decode cX7_coldBy 7 = .ok (.invokestatic 370, 3) := by decide +kernel
theorem dX7_coldBy_10 : decode cX7_coldBy 10 = .ok (.invokevirtual 352, 3) := by decide +kernel
theorem dX7_coldBy_13 : decode cX7_coldBy 13 = .ok (.ifCond .ne 5, 3) := by decide +kernel
theorem dX7_coldBy_16 : decode cX7_coldBy 16 = .ok (.iconst 0, 1) := by decide +kernel
theorem dX7_coldBy_17 : decode cX7_coldBy 17 = .ok (.ireturn, 1) := by decide +kernel
theorem dX7_coldBy_18 : decode cX7_coldBy 18 = .ok (.aload_n 0, 1) := by decide +kernel
theorem dX7_coldBy_19 : decode cX7_coldBy 19 = .ok (.invokevirtual 373, 3) := by decide +kernel
theorem dX7_coldBy_22 : decode cX7_coldBy 22 = .ok (.aload_n 0, 1) := by decide +kernel
theorem dX7_coldBy_23 : decode cX7_coldBy 23 = .ok (.aload_n 0, 1) := by decide +kernel
theorem dX7_coldBy_24 : decode cX7_coldBy 24 = .ok (.iload_n 1, 1) := by decide +kernel
theorem dX7_coldBy_25 : decode cX7_coldBy 25 = .ok (.iconst 0, 1) := by decide +kernel
theorem dX7_coldBy_26 : decode cX7_coldBy 26 = .ok (.iload_n 2, 1) := by decide +kernel
theorem dX7_coldBy_27 : decode cX7_coldBy 27 = .ok (.invokevirtual 376, 3) := by decide +kernel
theorem dX7_coldBy_30 : decode cX7_coldBy 30 = .ok (.invokevirtual 379, 3) := by decide +kernel
theorem dX7_coldBy_33 : decode cX7_coldBy 33 = .ok (.istore_n 3, 1) := by decide +kernel
theorem dX7_coldBy_34 : decode cX7_coldBy 34 = .ok (.aload_n 0, 1) := by decide +kernel
theorem dX7_coldBy_35 : decode cX7_coldBy 35 = .ok (.iload_n 1, 1) := by decide +kernel
theorem dX7_coldBy_36 : decode cX7_coldBy 36 = .ok (.iconst 5, 1) := by decide +kernel
theorem dX7_coldBy_37 : decode cX7_coldBy 37 = .ok (.iconst 1, 1) := by decide +kernel
theorem dX7_coldBy_38 : decode cX7_coldBy 38 = .ok (.invokevirtual 105, 3) := by decide +kernel
theorem dX7_coldBy_41 : decode cX7_coldBy 41 = .ok (.iconst 0, 1) := by decide +kernel
theorem dX7_coldBy_42 : decode cX7_coldBy 42 = .ok (.iload_n 3, 1) := by decide +kernel
theorem dX7_coldBy_43 : decode cX7_coldBy 43 = .ok (.aload_n 0, 1) := by decide +kernel
theorem dX7_coldBy_44 : decode cX7_coldBy 44 = .ok (.aload_n 0, 1) := by decide +kernel
theorem dX7_coldBy_45 : decode cX7_coldBy 45 = .ok (.iload_n 1, 1) := by decide +kernel
theorem dX7_coldBy_46 : decode cX7_coldBy 46 = .ok (.iconst 0, 1) := by decide +kernel
theorem dX7_coldBy_47 : decode cX7_coldBy 47 = .ok (.iload_n 2, 1) := by decide +kernel
theorem dX7_coldBy_48 : decode cX7_coldBy 48 = .ok (.invokevirtual 376, 3) := by decide +kernel
theorem dX7_coldBy_51 : decode cX7_coldBy 51 = .ok (.invokevirtual 379, 3) := by decide +kernel
theorem dX7_coldBy_54 : decode cX7_coldBy 54 = .ok (.isub, 1) := by decide +kernel
theorem dX7_coldBy_55 : decode cX7_coldBy 55 = .ok (.invokestatic 150, 3) := by decide +kernel
theorem dX7_coldBy_58 : decode cX7_coldBy 58 = .ok (.ireturn, 1) := by decide +kernel
theorem dX7_coldest_0 : decode cX7_coldest 0 = .ok (.aload_n 0, 1) := by decide +kernel
theorem dX7_coldest_1 : decode cX7_coldest 1 = .ok (.iconst 0, 1) := by decide +kernel
theorem dX7_coldest_2 : decode cX7_coldest 2 = .ok (.putfield 3, 3) := by decide +kernel
theorem dX7_coldest_5 : decode cX7_coldest 5 = .ok (.iconst (-1), 1) := by decide +kernel
theorem dX7_coldest_6 : decode cX7_coldest 6 = .ok (.istore_n 1, 1) := by decide +kernel
theorem dX7_coldest_7 : decode cX7_coldest 7 = .ok (.iconst 0, 1) := by decide +kernel
theorem dX7_coldest_8 : decode cX7_coldest 8 = .ok (.istore_n 2, 1) := by decide +kernel
theorem dX7_coldest_9 : decode cX7_coldest 9 = .ok (.iload_n 2, 1) := by decide +kernel
theorem dX7_coldest_10 : decode cX7_coldest 10 = .ok (.aload_n 0, 1) := by decide +kernel
theorem dX7_coldest_11 : decode cX7_coldest 11 = .ok (.invokevirtual 56, 3) := by decide +kernel
theorem dX7_coldest_14 : decode cX7_coldest 14 = .ok (.if_icmp .ge 35, 3) := by decide +kernel
theorem dX7_coldest_17 : decode cX7_coldest 17 = .ok (.iload_n 1, 1) := by decide +kernel
theorem dX7_coldest_18 : decode cX7_coldest 18 = .ok (.iconst (-1), 1) := by decide +kernel
theorem dX7_coldest_19 : decode cX7_coldest 19 = .ok (.if_icmp .eq 18, 3) := by decide +kernel
theorem dX7_coldest_22 : decode cX7_coldest 22 = .ok (.aload_n 0, 1) := by decide +kernel
theorem dX7_coldest_23 : decode cX7_coldest 23 = .ok (.iload_n 2, 1) := by decide +kernel
theorem dX7_coldest_24 : decode cX7_coldest 24 = .ok (.iconst 0, 1) := by decide +kernel
theorem dX7_coldest_25 : decode cX7_coldest 25 = .ok (.invokevirtual 68, 3) := by decide +kernel
theorem dX7_coldest_28 : decode cX7_coldest 28 = .ok (.aload_n 0, 1) := by decide +kernel
theorem dX7_coldest_29 : decode cX7_coldest 29 = .ok (.iload_n 1, 1) := by decide +kernel
theorem dX7_coldest_30 : decode cX7_coldest 30 = .ok (.iconst 0, 1) := by decide +kernel
theorem dX7_coldest_31 : decode cX7_coldest 31 = .ok (.invokevirtual 68, 3) := by decide +kernel
theorem dX7_coldest_34 : decode cX7_coldest 34 = .ok (.if_icmp .ge 7, 3) := by decide +kernel
theorem dX7_coldest_37 : decode cX7_coldest 37 = .ok (.iload_n 2, 1) := by decide +kernel
theorem dX7_coldest_38 : decode cX7_coldest 38 = .ok (.goto 4, 3) := by decide +kernel
theorem dX7_coldest_41 : decode cX7_coldest 41 = .ok (.iload_n 1, 1) := by decide +kernel
theorem dX7_coldest_42 : decode cX7_coldest 42 = .ok (.istore_n 1, 1) := by decide +kernel
theorem dX7_coldest_43 : decode cX7_coldest 43 = .ok (.iinc 2 1, 3) := by decide +kernel
theorem dX7_coldest_46 : decode cX7_coldest 46 = .ok (.goto (-37), 3) := by decide +kernel
theorem dX7_coldest_49 : decode cX7_coldest 49 = .ok (.iload_n 1, 1) := by decide +kernel
theorem dX7_coldest_50 : decode cX7_coldest 50 = .ok (.ireturn, 1) := by decide +kernel
theorem dX7_apart_0 : decode cX7_apart 0 = .ok (.aload_n 0, 1) := by decide +kernel
theorem dX7_apart_1 : decode cX7_apart 1 = .ok (.iload_n 1, 1) := by decide +kernel
theorem dX7_apart_2 : decode cX7_apart 2 = .ok (.iconst 0, 1) := by decide +kernel
theorem dX7_apart_3 : decode cX7_apart 3 = .ok (.invokevirtual 68, 3) := by decide +kernel
theorem dX7_apart_6 : decode cX7_apart 6 = .ok (.aload_n 0, 1) := by decide +kernel
theorem dX7_apart_7 : decode cX7_apart 7 = .ok (.iload_n 1, 1) := by decide +kernel
theorem dX7_apart_8 : decode cX7_apart 8 = .ok (.invokevirtual 78, 3) := by decide +kernel
theorem dX7_apart_11 : decode cX7_apart 11 = .ok (.isub, 1) := by decide +kernel
theorem dX7_apart_12 : decode cX7_apart 12 = .ok (.invokestatic 82, 3) := by decide +kernel
theorem dX7_apart_15 : decode cX7_apart 15 = .ok (.ireturn, 1) := by decide +kernel
theorem dX7_farthest_0 : decode cX7_farthest 0 = .ok (.aload_n 0, 1) := by decide +kernel
theorem dX7_farthest_1 : decode cX7_farthest 1 = .ok (.iconst 0, 1) := by decide +kernel
theorem dX7_farthest_2 : decode cX7_farthest 2 = .ok (.putfield 3, 3) := by decide +kernel
theorem dX7_farthest_5 : decode cX7_farthest 5 = .ok (.iconst (-1), 1) := by decide +kernel
theorem dX7_farthest_6 : decode cX7_farthest 6 = .ok (.istore_n 1, 1) := by decide +kernel
theorem dX7_farthest_7 : decode cX7_farthest 7 = .ok (.iconst 0, 1) := by decide +kernel
theorem dX7_farthest_8 : decode cX7_farthest 8 = .ok (.istore_n 2, 1) := by decide +kernel
theorem dX7_farthest_9 : decode cX7_farthest 9 = .ok (.iload_n 2, 1) := by decide +kernel
theorem dX7_farthest_10 : decode cX7_farthest 10 = .ok (.aload_n 0, 1) := by decide +kernel
theorem dX7_farthest_11 : decode cX7_farthest 11 = .ok (.invokevirtual 56, 3) := by decide +kernel
theorem dX7_farthest_14 : decode cX7_farthest 14 = .ok (.if_icmp .ge 33, 3) := by decide +kernel
theorem dX7_farthest_17 : decode cX7_farthest 17 = .ok (.iload_n 1, 1) := by decide +kernel
theorem dX7_farthest_18 : decode cX7_farthest 18 = .ok (.iconst (-1), 1) := by decide +kernel
theorem dX7_farthest_19 : decode cX7_farthest 19 = .ok (.if_icmp .eq 16, 3) := by decide +kernel
theorem dX7_farthest_22 : decode cX7_farthest 22 = .ok (.aload_n 0, 1) := by decide +kernel
theorem dX7_farthest_23 : decode cX7_farthest 23 = .ok (.iload_n 2, 1) := by decide +kernel
theorem dX7_farthest_24 : decode cX7_farthest 24 = .ok (.invokevirtual 398, 3) := by decide +kernel
theorem dX7_farthest_27 : decode cX7_farthest 27 = .ok (.aload_n 0, 1) := by decide +kernel
theorem dX7_farthest_28 : decode cX7_farthest 28 = .ok (.iload_n 1, 1) := by decide +kernel
theorem dX7_farthest_29 : decode cX7_farthest 29 = .ok (.invokevirtual 398, 3) := by decide +kernel
theorem dX7_farthest_32 : decode cX7_farthest 32 = .ok (.if_icmp .le 7, 3) := by decide +kernel
theorem dX7_farthest_35 : decode cX7_farthest 35 = .ok (.iload_n 2, 1) := by decide +kernel
theorem dX7_farthest_36 : decode cX7_farthest 36 = .ok (.goto 4, 3) := by decide +kernel
theorem dX7_farthest_39 : decode cX7_farthest 39 = .ok (.iload_n 1, 1) := by decide +kernel
theorem dX7_farthest_40 : decode cX7_farthest 40 = .ok (.istore_n 1, 1) := by decide +kernel
theorem dX7_farthest_41 : decode cX7_farthest 41 = .ok (.iinc 2 1, 3) := by decide +kernel
theorem dX7_farthest_44 : decode cX7_farthest 44 = .ok (.goto (-35), 3) := by decide +kernel
theorem dX7_farthest_47 : decode cX7_farthest 47 = .ok (.iload_n 1, 1) := by decide +kernel
theorem dX7_farthest_48 : decode cX7_farthest 48 = .ok (.ireturn, 1) := by decide +kernel
theorem dX7_weakest_0 : decode cX7_weakest 0 = .ok (.aload_n 0, 1) := by decide +kernel
theorem dX7_weakest_1 : decode cX7_weakest 1 = .ok (.iconst 0, 1) := by decide +kernel
theorem dX7_weakest_2 : decode cX7_weakest 2 = .ok (.putfield 3, 3) := by decide +kernel
theorem dX7_weakest_5 : decode cX7_weakest 5 = .ok (.iconst (-1), 1) := by decide +kernel
theorem dX7_weakest_6 : decode cX7_weakest 6 = .ok (.istore_n 1, 1) := by decide +kernel
theorem dX7_weakest_7 : decode cX7_weakest 7 = .ok (.iconst 0, 1) := by decide +kernel
theorem dX7_weakest_8 : decode cX7_weakest 8 = .ok (.istore_n 2, 1) := by decide +kernel
theorem dX7_weakest_9 : decode cX7_weakest 9 = .ok (.iload_n 2, 1) := by decide +kernel
theorem dX7_weakest_10 : decode cX7_weakest 10 = .ok (.aload_n 0, 1) := by decide +kernel
theorem dX7_weakest_11 : decode cX7_weakest 11 = .ok (.invokevirtual 56, 3) := by decide +kernel
theorem dX7_weakest_14 : decode cX7_weakest 14 = .ok (.if_icmp .ge 35, 3) := by decide +kernel
theorem dX7_weakest_17 : decode cX7_weakest 17 = .ok (.iload_n 1, 1) := by decide +kernel
theorem dX7_weakest_18 : decode cX7_weakest 18 = .ok (.iconst (-1), 1) := by decide +kernel
theorem dX7_weakest_19 : decode cX7_weakest 19 = .ok (.if_icmp .eq 18, 3) := by decide +kernel
theorem dX7_weakest_22 : decode cX7_weakest 22 = .ok (.aload_n 0, 1) := by decide +kernel
theorem dX7_weakest_23 : decode cX7_weakest 23 = .ok (.iload_n 2, 1) := by decide +kernel
theorem dX7_weakest_24 : decode cX7_weakest 24 = .ok (.iconst 2, 1) := by decide +kernel
theorem dX7_weakest_25 : decode cX7_weakest 25 = .ok (.invokevirtual 68, 3) := by decide +kernel
theorem dX7_weakest_28 : decode cX7_weakest 28 = .ok (.aload_n 0, 1) := by decide +kernel
theorem dX7_weakest_29 : decode cX7_weakest 29 = .ok (.iload_n 1, 1) := by decide +kernel
theorem dX7_weakest_30 : decode cX7_weakest 30 = .ok (.iconst 2, 1) := by decide +kernel
theorem dX7_weakest_31 : decode cX7_weakest 31 = .ok (.invokevirtual 68, 3) := by decide +kernel
theorem dX7_weakest_34 : decode cX7_weakest 34 = .ok (.if_icmp .ge 7, 3) := by decide +kernel
theorem dX7_weakest_37 : decode cX7_weakest 37 = .ok (.iload_n 2, 1) := by decide +kernel
theorem dX7_weakest_38 : decode cX7_weakest 38 = .ok (.goto 4, 3) := by decide +kernel
theorem dX7_weakest_41 : decode cX7_weakest 41 = .ok (.iload_n 1, 1) := by decide +kernel
theorem dX7_weakest_42 : decode cX7_weakest 42 = .ok (.istore_n 1, 1) := by decide +kernel
theorem dX7_weakest_43 : decode cX7_weakest 43 = .ok (.iinc 2 1, 3) := by decide +kernel
theorem dX7_weakest_46 : decode cX7_weakest 46 = .ok (.goto (-37), 3) := by decide +kernel
theorem dX7_weakest_49 : decode cX7_weakest 49 = .ok (.iload_n 1, 1) := by decide +kernel
theorem dX7_weakest_50 : decode cX7_weakest 50 = .ok (.ireturn, 1) := by decide +kernel
theorem dX7_sum_0 : decode cX7_sum 0 = .ok (.aload_n 0, 1) := by decide +kernel
theorem dX7_sum_1 : decode cX7_sum 1 = .ok (.iload_n 1, 1) := by decide +kernel
theorem dX7_sum_2 : decode cX7_sum 2 = .ok (.invokestatic 358, 3) := by decide +kernel
theorem dX7_sum_5 : decode cX7_sum 5 = .ok (.invokevirtual 155, 3) := by decide +kernel
theorem dX7_sum_8 : decode cX7_sum 8 = .ok (.ifCond .eq 14, 3) := by decide +kernel
theorem dX7_sum_11 : decode cX7_sum 11 = .ok (.aload_n 0, 1) := by decide +kernel
theorem dX7_sum_12 : decode cX7_sum 12 = .ok (.bipush 12, 2) := by decide +kernel
theorem dX7_sum_14 : decode cX7_sum 14 = .ok (.iload_n 1, 1) := by decide +kernel
theorem dX7_sum_15 : decode cX7_sum 15 = .ok (.iadd, 1) := by decide +kernel
theorem dX7_sum_16 : decode cX7_sum 16 = .ok (.invokevirtual 385, 3) := by decide +kernel
theorem dX7_sum_19 : decode cX7_sum 19 = .ok (.goto 4, 3) := by decide +kernel
theorem dX7_sum_22 : decode cX7_sum 22 = .ok (.iconst 0, 1) := by decide +kernel
theorem dX7_sum_23 : decode cX7_sum 23 = .ok (.ireturn, 1) := by decide +kernel
theorem dX7_meanTemp_0 : decode cX7_meanTemp 0 = .ok (.aload_n 0, 1) := by decide +kernel
theorem dX7_meanTemp_1 : decode cX7_meanTemp 1 = .ok (.iconst 0, 1) := by decide +kernel
theorem dX7_meanTemp_2 : decode cX7_meanTemp 2 = .ok (.putfield 3, 3) := by decide +kernel
theorem dX7_meanTemp_5 : decode cX7_meanTemp 5 = .ok (.aload_n 0, 1) := by decide +kernel
theorem dX7_meanTemp_6 : decode cX7_meanTemp 6 = .ok (.invokevirtual 56, 3) := by decide +kernel
theorem dX7_meanTemp_9 : decode cX7_meanTemp 9 = .ok (.ifCond .ne 7, 3) := by decide +kernel
theorem dX7_meanTemp_12 : decode cX7_meanTemp 12 = .ok (.dconst 0, 1) := by decide +kernel
theorem dX7_meanTemp_13 : decode cX7_meanTemp 13 = .ok (.goto 15, 3) := by decide +kernel
theorem dX7_meanTemp_16 : decode cX7_meanTemp 16 = .ok (.aload_n 0, 1) := by decide +kernel
theorem dX7_meanTemp_17 : decode cX7_meanTemp 17 = .ok (.iconst 0, 1) := by decide +kernel
theorem dX7_meanTemp_18 : decode cX7_meanTemp 18 = .ok (.invokevirtual 385, 3) := by decide +kernel
theorem dX7_meanTemp_21 : decode cX7_meanTemp 21 = .ok (.i2d, 1) := by decide +kernel
theorem dX7_meanTemp_22 : decode cX7_meanTemp 22 = .ok (.aload_n 0, 1) := by decide +kernel
theorem dX7_meanTemp_23 : decode cX7_meanTemp 23 = .ok (.invokevirtual 56, 3) := by decide +kernel
theorem dX7_meanTemp_26 : decode cX7_meanTemp 26 = .ok (.i2d, 1) := by decide +kernel
theorem dX7_meanTemp_27 : decode cX7_meanTemp 27 = .ok (.ddiv, 1) := by decide +kernel
theorem dX7_meanTemp_28 : decode cX7_meanTemp 28 = .ok (.dreturn, 1) := by decide +kernel
theorem dX7_warmth_0 : decode cX7_warmth 0 = .ok (.aload_n 0, 1) := by decide +kernel
theorem dX7_warmth_1 : decode cX7_warmth 1 = .ok (.aload_n 0, 1) := by decide +kernel
theorem dX7_warmth_2 : decode cX7_warmth 2 = .ok (.iload_n 1, 1) := by decide +kernel
theorem dX7_warmth_3 : decode cX7_warmth 3 = .ok (.invokevirtual 347, 3) := by decide +kernel
theorem dX7_warmth_6 : decode cX7_warmth 6 = .ok (.invokevirtual 155, 3) := by decide +kernel
theorem dX7_warmth_9 : decode cX7_warmth 9 = .ok (.ifCond .ne 5, 3) := by decide +kernel
theorem dX7_warmth_12 : decode cX7_warmth 12 = .ok (.fconst 0, 1) := by decide +kernel
theorem dX7_warmth_13 : decode cX7_warmth 13 = .ok (.freturn, 1) := by decide +kernel
theorem dX7_warmth_14 : decode cX7_warmth 14 = .ok (.aload_n 0, 1) := by decide +kernel
theorem dX7_warmth_15 : decode cX7_warmth 15 = .ok (.getfield 17, 3) := by decide +kernel
theorem dX7_warmth_18 : decode cX7_warmth 18 = .ok (.iconst 1, 1) := by decide +kernel
theorem dX7_warmth_19 : decode cX7_warmth 19 = .ok (.iaload, 1) := by decide +kernel
theorem dX7_warmth_20 : decode cX7_warmth 20 = .ok (.ifCond .ne 7, 3) := by decide +kernel
theorem dX7_warmth_23 : decode cX7_warmth 23 = .ok (.fconst 0, 1) := by decide +kernel
theorem dX7_warmth_24 : decode cX7_warmth 24 = .ok (.goto 22, 3) := by decide +kernel
theorem dX7_warmth_27 : decode cX7_warmth 27 = .ok (.aload_n 0, 1) := by decide +kernel
theorem dX7_warmth_28 : decode cX7_warmth 28 = .ok (.iload_n 1, 1) := by decide +kernel
theorem dX7_warmth_29 : decode cX7_warmth 29 = .ok (.bipush 10, 2) := by decide +kernel
theorem dX7_warmth_31 : decode cX7_warmth 31 = .ok (.invokevirtual 68, 3) := by decide +kernel
theorem dX7_warmth_34 : decode cX7_warmth 34 = .ok (.i2f, 1) := by decide +kernel
theorem dX7_warmth_35 : decode cX7_warmth 35 = .ok (.bipush 100, 2) := by decide +kernel
theorem dX7_warmth_37 : decode cX7_warmth 37 = .ok (.aload_n 0, 1) := by decide +kernel
theorem dX7_warmth_38 : decode cX7_warmth 38 = .ok (.getfield 17, 3) := by decide +kernel
theorem dX7_warmth_41 : decode cX7_warmth 41 = .ok (.iconst 1, 1) := by decide +kernel
theorem dX7_warmth_42 : decode cX7_warmth 42 = .ok (.iaload, 1) := by decide +kernel
theorem dX7_warmth_43 : decode cX7_warmth 43 = .ok (.imul, 1) := by decide +kernel
theorem dX7_warmth_44 : decode cX7_warmth 44 = .ok (.i2f, 1) := by decide +kernel
theorem dX7_warmth_45 : decode cX7_warmth 45 = .ok (.fdiv, 1) := by decide +kernel
theorem dX7_warmth_46 : decode cX7_warmth 46 = .ok (.freturn, 1) := by decide +kernel
theorem dX7_reckoned_0 : decode cX7_reckoned 0 = .ok (.aload_n 0, 1) := by decide +kernel
theorem dX7_reckoned_1 : decode cX7_reckoned 1 = .ok (.aload_n 0, 1) := by decide +kernel
theorem dX7_reckoned_2 : decode cX7_reckoned 2 = .ok (.iload_n 1, 1) := by decide +kernel
theorem dX7_reckoned_3 : decode cX7_reckoned 3 = .ok (.invokevirtual 347, 3) := by decide +kernel
theorem dX7_reckoned_6 : decode cX7_reckoned 6 = .ok (.invokevirtual 155, 3) := by decide +kernel
theorem dX7_reckoned_9 : decode cX7_reckoned 9 = .ok (.ifCond .eq 12, 3) := by decide +kernel
theorem dX7_reckoned_12 : decode cX7_reckoned 12 = .ok (.aload_n 0, 1) := by decide +kernel
theorem dX7_reckoned_13 : decode cX7_reckoned 13 = .ok (.iload_n 1, 1) := by decide +kernel
theorem dX7_reckoned_14 : decode cX7_reckoned 14 = .ok (.iconst 2, 1) := by decide +kernel
theorem dX7_reckoned_15 : decode cX7_reckoned 15 = .ok (.invokevirtual 68, 3) := by decide +kernel
theorem dX7_reckoned_18 : decode cX7_reckoned 18 = .ok (.goto 4, 3) := by decide +kernel
theorem dX7_reckoned_21 : decode cX7_reckoned 21 = .ok (.iconst 0, 1) := by decide +kernel
theorem dX7_reckoned_22 : decode cX7_reckoned 22 = .ok (.ireturn, 1) := by decide +kernel
theorem dX7_tick_0 : decode cX7_tick 0 = .ok (.aload_n 0, 1) := by decide +kernel
theorem dX7_tick_1 : decode cX7_tick 1 = .ok (.iload_n 1, 1) := by decide +kernel
theorem dX7_tick_2 : decode cX7_tick 2 = .ok (.i2l, 1) := by decide +kernel
theorem dX7_tick_3 : decode cX7_tick 3 = .ok (.lconst 1, 1) := by decide +kernel
theorem dX7_tick_4 : decode cX7_tick 4 = .ok (.ldc2_w 401, 3) := by decide +kernel
theorem dX7_tick_7 : decode cX7_tick 7 = .ok (.invokestatic 60, 3) := by decide +kernel
theorem dX7_tick_10 : decode cX7_tick 10 = .ok (.invokevirtual 155, 3) := by decide +kernel
theorem dX7_tick_13 : decode cX7_tick 13 = .ok (.ifCond .ne 5, 3) := by decide +kernel
theorem dX7_tick_16 : decode cX7_tick 16 = .ok (.iconst 0, 1) := by decide +kernel
theorem dX7_tick_17 : decode cX7_tick 17 = .ok (.ireturn, 1) := by decide +kernel
theorem dX7_tick_18 : decode cX7_tick 18 = .ok (.aload_n 0, 1) := by decide +kernel
theorem dX7_tick_19 : decode cX7_tick 19 = .ok (.invokevirtual 340, 3) := by decide +kernel
theorem dX7_tick_22 : decode cX7_tick 22 = .ok (.aload_n 0, 1) := by decide +kernel
theorem dX7_tick_23 : decode cX7_tick 23 = .ok (.bipush 12, 2) := by decide +kernel
theorem dX7_tick_25 : decode cX7_tick 25 = .ok (.invokevirtual 385, 3) := by decide +kernel
theorem dX7_tick_28 : decode cX7_tick 28 = .ok (.istore_n 2, 1) := by decide +kernel
theorem dX7_tick_29 : decode cX7_tick 29 = .ok (.aload_n 0, 1) := by decide +kernel
theorem dX7_tick_30 : decode cX7_tick 30 = .ok (.iload_n 1, 1) := by decide +kernel
theorem dX7_tick_31 : decode cX7_tick 31 = .ok (.invokevirtual 147, 3) := by decide +kernel
theorem dX7_tick_34 : decode cX7_tick 34 = .ok (.aload_n 0, 1) := by decide +kernel
theorem dX7_tick_35 : decode cX7_tick 35 = .ok (.bipush 12, 2) := by decide +kernel
theorem dX7_tick_37 : decode cX7_tick 37 = .ok (.invokevirtual 385, 3) := by decide +kernel
theorem dX7_tick_40 : decode cX7_tick 40 = .ok (.iload_n 2, 1) := by decide +kernel
theorem dX7_tick_41 : decode cX7_tick 41 = .ok (.isub, 1) := by decide +kernel
theorem dX7_tick_42 : decode cX7_tick 42 = .ok (.ireturn, 1) := by decide +kernel
theorem dX7_isTarget_0 : decode cX7_isTarget 0 = .ok (.iload_n 0, 1) := by decide +kernel
theorem dX7_isTarget_1 : decode cX7_isTarget 1 = .ok (.i2l, 1) := by decide +kernel
theorem dX7_isTarget_2 : decode cX7_isTarget 2 = .ok (.ldc2_w 403, 3) := by decide +kernel
theorem dX7_isTarget_5 : decode cX7_isTarget 5 = .ok (.ldc2_w 405, 3) := by decide +kernel
theorem dX7_isTarget_8 : decode cX7_isTarget 8 = .ok (.invokestatic 60, 3) := by decide +kernel
theorem dX7_isTarget_11 : decode cX7_isTarget 11 = .ok (.ireturn, 1) := by decide +kernel
theorem dX7_becomes_0 : decode cX7_becomes 0 = .ok (.aload_n 0, 1) := by decide +kernel
theorem dX7_becomes_1 : decode cX7_becomes 1 = .ok (.invokevirtual 340, 3) := by decide +kernel
theorem dX7_becomes_4 : decode cX7_becomes 4 = .ok (.aload_n 0, 1) := by decide +kernel
theorem dX7_becomes_5 : decode cX7_becomes 5 = .ok (.iload_n 1, 1) := by decide +kernel
theorem dX7_becomes_6 : decode cX7_becomes 6 = .ok (.iload_n 2, 1) := by decide +kernel
theorem dX7_becomes_7 : decode cX7_becomes 7 = .ok (.invokevirtual 68, 3) := by decide +kernel
theorem dX7_becomes_10 : decode cX7_becomes 10 = .ok (.istore 4, 2) := by decide +kernel
theorem dX7_becomes_12 : decode cX7_becomes 12 = .ok (.aload_n 0, 1) := by decide +kernel
theorem dX7_becomes_13 : decode cX7_becomes 13 = .ok (.iload_n 1, 1) := by decide +kernel
theorem dX7_becomes_14 : decode cX7_becomes 14 = .ok (.iload_n 2, 1) := by decide +kernel
theorem dX7_becomes_15 : decode cX7_becomes 15 = .ok (.iload_n 3, 1) := by decide +kernel
theorem dX7_becomes_16 : decode cX7_becomes 16 = .ok (.invokevirtual 105, 3) := by decide +kernel
theorem dX7_becomes_19 : decode cX7_becomes 19 = .ok (.iload 4, 2) := by decide +kernel
theorem dX7_becomes_21 : decode cX7_becomes 21 = .ok (.ireturn, 1) := by decide +kernel
theorem dX7_setProgram_0 : decode cX7_setProgram 0 = .ok (.aload_n 0, 1) := by decide +kernel
theorem dX7_setProgram_1 : decode cX7_setProgram 1 = .ok (.aload_n 0, 1) := by decide +kernel
theorem dX7_setProgram_2 : decode cX7_setProgram 2 = .ok (.iload_n 1, 1) := by decide +kernel
theorem dX7_setProgram_3 : decode cX7_setProgram 3 = .ok (.invokevirtual 347, 3) := by decide +kernel
theorem dX7_setProgram_6 : decode cX7_setProgram 6 = .ok (.iload_n 2, 1) := by decide +kernel
theorem dX7_setProgram_7 : decode cX7_setProgram 7 = .ok (.invokestatic 363, 3) := by decide +kernel
theorem dX7_setProgram_10 : decode cX7_setProgram 10 = .ok (.ifCond .eq 14, 3) := by decide +kernel
theorem dX7_setProgram_13 : decode cX7_setProgram 13 = .ok (.iload_n 3, 1) := by decide +kernel
theorem dX7_setProgram_14 : decode cX7_setProgram 14 = .ok (.invokestatic 407, 3) := by decide +kernel
theorem dX7_setProgram_17 : decode cX7_setProgram 17 = .ok (.ifCond .eq 7, 3) := by decide +kernel
theorem dX7_setProgram_20 : decode cX7_setProgram 20 = .ok (.iconst 1, 1) := by decide +kernel
theorem dX7_setProgram_21 : decode cX7_setProgram 21 = .ok (.goto 4, 3) := by decide +kernel
theorem dX7_setProgram_24 : decode cX7_setProgram 24 = .ok (.iconst 0, 1) := by decide +kernel
theorem dX7_setProgram_25 : decode cX7_setProgram 25 = .ok (.invokevirtual 352, 3) := by decide +kernel
theorem dX7_setProgram_28 : decode cX7_setProgram 28 = .ok (.ifCond .ne 5, 3) := by decide +kernel
theorem dX7_setProgram_31 : decode cX7_setProgram 31 = .ok (.iconst 0, 1) := by decide +kernel
theorem dX7_setProgram_32 : decode cX7_setProgram 32 = .ok (.ireturn, 1) := by decide +kernel
theorem dX7_setProgram_33 : decode cX7_setProgram 33 = .ok (.aload_n 0, 1) := by decide +kernel
theorem dX7_setProgram_34 : decode cX7_setProgram 34 = .ok (.iload_n 1, 1) := by decide +kernel
theorem dX7_setProgram_35 : decode cX7_setProgram 35 = .ok (.bipush 18, 2) := by decide +kernel
theorem dX7_setProgram_37 : decode cX7_setProgram 37 = .ok (.iload_n 2, 1) := by decide +kernel
theorem dX7_setProgram_38 : decode cX7_setProgram 38 = .ok (.iadd, 1) := by decide +kernel
theorem dX7_setProgram_39 : decode cX7_setProgram 39 = .ok (.iload_n 3, 1) := by decide +kernel
theorem dX7_setProgram_40 : decode cX7_setProgram 40 = .ok (.invokevirtual 410, 3) := by decide +kernel
theorem dX7_setProgram_43 : decode cX7_setProgram 43 = .ok (.istore 4, 2) := by decide +kernel
theorem dX7_setProgram_45 : decode cX7_setProgram 45 = .ok (.iload 4, 2) := by decide +kernel
theorem dX7_setProgram_47 : decode cX7_setProgram 47 = .ok (.ifCond .ne 7, 3) := by decide +kernel
theorem dX7_setProgram_50 : decode cX7_setProgram 50 = .ok (.iconst (-1), 1) := by decide +kernel
theorem dX7_setProgram_51 : decode cX7_setProgram 51 = .ok (.goto 5, 3) := by decide +kernel
theorem dX7_setProgram_54 : decode cX7_setProgram 54 = .ok (.iload 4, 2) := by decide +kernel
theorem dX7_setProgram_56 : decode cX7_setProgram 56 = .ok (.ireturn, 1) := by decide +kernel
theorem dX7_clearProgram_0 : decode cX7_clearProgram 0 = .ok (.aload_n 0, 1) := by decide +kernel
theorem dX7_clearProgram_1 : decode cX7_clearProgram 1 = .ok (.iload_n 1, 1) := by decide +kernel
theorem dX7_clearProgram_2 : decode cX7_clearProgram 2 = .ok (.invokevirtual 347, 3) := by decide +kernel
theorem dX7_clearProgram_5 : decode cX7_clearProgram 5 = .ok (.istore_n 3, 1) := by decide +kernel
theorem dX7_clearProgram_6 : decode cX7_clearProgram 6 = .ok (.iload_n 2, 1) := by decide +kernel
theorem dX7_clearProgram_7 : decode cX7_clearProgram 7 = .ok (.invokestatic 363, 3) := by decide +kernel
theorem dX7_clearProgram_10 : decode cX7_clearProgram 10 = .ok (.istore 4, 2) := by decide +kernel
theorem dX7_clearProgram_12 : decode cX7_clearProgram 12 = .ok (.aload_n 0, 1) := by decide +kernel
theorem dX7_clearProgram_13 : decode cX7_clearProgram 13 = .ok (.iload_n 3, 1) := by decide +kernel
theorem dX7_clearProgram_14 : decode cX7_clearProgram 14 = .ok (.iload 4, 2) := by decide +kernel
theorem dX7_clearProgram_16 : decode cX7_clearProgram 16 = .ok (.iload_n 3, 1) := by decide +kernel
theorem dX7_clearProgram_17 : decode cX7_clearProgram 17 = .ok (.ifCond .eq 21, 3) := by decide +kernel
theorem dX7_clearProgram_20 : decode cX7_clearProgram 20 = .ok (.iload 4, 2) := by decide +kernel
theorem dX7_clearProgram_22 : decode cX7_clearProgram 22 = .ok (.ifCond .eq 16, 3) := by decide +kernel
theorem dX7_clearProgram_25 : decode cX7_clearProgram 25 = .ok (.aload_n 0, 1) := by decide +kernel
theorem dX7_clearProgram_26 : decode cX7_clearProgram 26 = .ok (.iload_n 1, 1) := by decide +kernel
theorem dX7_clearProgram_27 : decode cX7_clearProgram 27 = .ok (.iload_n 2, 1) := by decide +kernel
theorem dX7_clearProgram_28 : decode cX7_clearProgram 28 = .ok (.invokevirtual 72, 3) := by decide +kernel
theorem dX7_clearProgram_31 : decode cX7_clearProgram 31 = .ok (.ifCond .le 7, 3) := by decide +kernel
theorem dX7_clearProgram_34 : decode cX7_clearProgram 34 = .ok (.iconst 1, 1) := by decide +kernel
theorem dX7_clearProgram_35 : decode cX7_clearProgram 35 = .ok (.goto 4, 3) := by decide +kernel
theorem dX7_clearProgram_38 : decode cX7_clearProgram 38 = .ok (.iconst 0, 1) := by decide +kernel
theorem dX7_clearProgram_39 : decode cX7_clearProgram 39 = .ok (.invokevirtual 7, 3) := by decide +kernel
theorem dX7_clearProgram_42 : decode cX7_clearProgram 42 = .ok (.ifCond .ne 5, 3) := by decide +kernel
theorem dX7_clearProgram_45 : decode cX7_clearProgram 45 = .ok (.iconst 0, 1) := by decide +kernel
theorem dX7_clearProgram_46 : decode cX7_clearProgram 46 = .ok (.ireturn, 1) := by decide +kernel
theorem dX7_clearProgram_47 : decode cX7_clearProgram 47 = .ok (.aload_n 0, 1) := by decide +kernel
theorem dX7_clearProgram_48 : decode cX7_clearProgram 48 = .ok (.iload_n 1, 1) := by decide +kernel
theorem dX7_clearProgram_49 : decode cX7_clearProgram 49 = .ok (.bipush 18, 2) := by decide +kernel
theorem dX7_clearProgram_51 : decode cX7_clearProgram 51 = .ok (.iload_n 2, 1) := by decide +kernel
theorem dX7_clearProgram_52 : decode cX7_clearProgram 52 = .ok (.iadd, 1) := by decide +kernel
theorem dX7_clearProgram_53 : decode cX7_clearProgram 53 = .ok (.iconst 0, 1) := by decide +kernel
theorem dX7_clearProgram_54 : decode cX7_clearProgram 54 = .ok (.invokevirtual 410, 3) := by decide +kernel
theorem dX7_clearProgram_57 : decode cX7_clearProgram 57 = .ok (.istore 5, 2) := by decide +kernel
theorem dX7_clearProgram_59 : decode cX7_clearProgram 59 = .ok (.aload_n 0, 1) := by decide +kernel
theorem dX7_clearProgram_60 : decode cX7_clearProgram 60 = .ok (.iload_n 1, 1) := by decide +kernel
theorem dX7_clearProgram_61 : decode cX7_clearProgram 61 = .ok (.invokevirtual 300, 3) := by decide +kernel
theorem dX7_clearProgram_64 : decode cX7_clearProgram 64 = .ok (.ireturn, 1) := by decide +kernel
theorem dX7_override_0 : decode cX7_override 0 = .ok (.aload_n 0, 1) := by decide +kernel
theorem dX7_override_1 : decode cX7_override 1 = .ok (.aload_n 0, 1) := by decide +kernel
theorem dX7_override_2 : decode cX7_override 2 = .ok (.iload_n 1, 1) := by decide +kernel
theorem dX7_override_3 : decode cX7_override 3 = .ok (.invokevirtual 347, 3) := by decide +kernel
theorem dX7_override_6 : decode cX7_override 6 = .ok (.iload_n 2, 1) := by decide +kernel
theorem dX7_override_7 : decode cX7_override 7 = .ok (.invokestatic 407, 3) := by decide +kernel
theorem dX7_override_10 : decode cX7_override 10 = .ok (.ifCond .eq 14, 3) := by decide +kernel
theorem dX7_override_13 : decode cX7_override 13 = .ok (.iload_n 3, 1) := by decide +kernel
theorem dX7_override_14 : decode cX7_override 14 = .ok (.invokestatic 370, 3) := by decide +kernel
theorem dX7_override_17 : decode cX7_override 17 = .ok (.ifCond .eq 7, 3) := by decide +kernel
theorem dX7_override_20 : decode cX7_override 20 = .ok (.iconst 1, 1) := by decide +kernel
theorem dX7_override_21 : decode cX7_override 21 = .ok (.goto 4, 3) := by decide +kernel
theorem dX7_override_24 : decode cX7_override 24 = .ok (.iconst 0, 1) := by decide +kernel
theorem dX7_override_25 : decode cX7_override 25 = .ok (.invokevirtual 352, 3) := by decide +kernel
theorem dX7_override_28 : decode cX7_override 28 = .ok (.ifCond .ne 5, 3) := by decide +kernel
theorem dX7_override_31 : decode cX7_override 31 = .ok (.iconst 0, 1) := by decide +kernel
theorem dX7_override_32 : decode cX7_override 32 = .ok (.ireturn, 1) := by decide +kernel
theorem dX7_override_33 : decode cX7_override 33 = .ok (.aload_n 0, 1) := by decide +kernel
theorem dX7_override_34 : decode cX7_override 34 = .ok (.iload_n 1, 1) := by decide +kernel
theorem dX7_override_35 : decode cX7_override 35 = .ok (.bipush 8, 2) := by decide +kernel
theorem dX7_override_37 : decode cX7_override 37 = .ok (.iload_n 2, 1) := by decide +kernel
theorem dX7_override_38 : decode cX7_override 38 = .ok (.invokevirtual 410, 3) := by decide +kernel
theorem dX7_override_41 : decode cX7_override 41 = .ok (.istore 4, 2) := by decide +kernel
theorem dX7_override_43 : decode cX7_override 43 = .ok (.aload_n 0, 1) := by decide +kernel
theorem dX7_override_44 : decode cX7_override 44 = .ok (.iload_n 1, 1) := by decide +kernel
theorem dX7_override_45 : decode cX7_override 45 = .ok (.bipush 9, 2) := by decide +kernel
theorem dX7_override_47 : decode cX7_override 47 = .ok (.iload_n 3, 1) := by decide +kernel
theorem dX7_override_48 : decode cX7_override 48 = .ok (.invokevirtual 105, 3) := by decide +kernel
theorem dX7_override_51 : decode cX7_override 51 = .ok (.aload_n 0, 1) := by decide +kernel
theorem dX7_override_52 : decode cX7_override 52 = .ok (.iload_n 1, 1) := by decide +kernel
theorem dX7_override_53 : decode cX7_override 53 = .ok (.invokevirtual 78, 3) := by decide +kernel
theorem dX7_override_56 : decode cX7_override 56 = .ok (.ireturn, 1) := by decide +kernel
theorem dX7_setWindow_0 : decode cX7_setWindow 0 = .ok (.aload_n 0, 1) := by decide +kernel
theorem dX7_setWindow_1 : decode cX7_setWindow 1 = .ok (.aload_n 0, 1) := by decide +kernel
theorem dX7_setWindow_2 : decode cX7_setWindow 2 = .ok (.iload_n 1, 1) := by decide +kernel
theorem dX7_setWindow_3 : decode cX7_setWindow 3 = .ok (.invokevirtual 347, 3) := by decide +kernel
theorem dX7_setWindow_6 : decode cX7_setWindow 6 = .ok (.invokevirtual 155, 3) := by decide +kernel
theorem dX7_setWindow_9 : decode cX7_setWindow 9 = .ok (.ifCond .eq 26, 3) := by decide +kernel
theorem dX7_setWindow_12 : decode cX7_setWindow 12 = .ok (.aload_n 0, 1) := by decide +kernel
theorem dX7_setWindow_13 : decode cX7_setWindow 13 = .ok (.iload_n 1, 1) := by decide +kernel
theorem dX7_setWindow_14 : decode cX7_setWindow 14 = .ok (.iconst 5, 1) := by decide +kernel
theorem dX7_setWindow_15 : decode cX7_setWindow 15 = .ok (.iload_n 2, 1) := by decide +kernel
theorem dX7_setWindow_16 : decode cX7_setWindow 16 = .ok (.ifCond .eq 7, 3) := by decide +kernel
theorem dX7_setWindow_19 : decode cX7_setWindow 19 = .ok (.iconst 1, 1) := by decide +kernel
theorem dX7_setWindow_20 : decode cX7_setWindow 20 = .ok (.goto 4, 3) := by decide +kernel
theorem dX7_setWindow_23 : decode cX7_setWindow 23 = .ok (.iconst 0, 1) := by decide +kernel
theorem dX7_setWindow_24 : decode cX7_setWindow 24 = .ok (.invokevirtual 410, 3) := by decide +kernel
theorem dX7_setWindow_27 : decode cX7_setWindow 27 = .ok (.iconst 1, 1) := by decide +kernel
theorem dX7_setWindow_28 : decode cX7_setWindow 28 = .ok (.if_icmp .ne 7, 3) := by decide +kernel
theorem dX7_setWindow_31 : decode cX7_setWindow 31 = .ok (.iconst 1, 1) := by decide +kernel
theorem dX7_setWindow_32 : decode cX7_setWindow 32 = .ok (.goto 4, 3) := by decide +kernel
theorem dX7_setWindow_35 : decode cX7_setWindow 35 = .ok (.iconst 0, 1) := by decide +kernel
theorem dX7_setWindow_36 : decode cX7_setWindow 36 = .ok (.ireturn, 1) := by decide +kernel
theorem dX7_setPresent_0 : decode cX7_setPresent 0 = .ok (.aload_n 0, 1) := by decide +kernel
theorem dX7_setPresent_1 : decode cX7_setPresent 1 = .ok (.aload_n 0, 1) := by decide +kernel
theorem dX7_setPresent_2 : decode cX7_setPresent 2 = .ok (.iload_n 1, 1) := by decide +kernel
theorem dX7_setPresent_3 : decode cX7_setPresent 3 = .ok (.invokevirtual 347, 3) := by decide +kernel
theorem dX7_setPresent_6 : decode cX7_setPresent 6 = .ok (.invokevirtual 155, 3) := by decide +kernel
theorem dX7_setPresent_9 : decode cX7_setPresent 9 = .ok (.ifCond .ne 5, 3) := by decide +kernel
theorem dX7_setPresent_12 : decode cX7_setPresent 12 = .ok (.iconst 0, 1) := by decide +kernel
theorem dX7_setPresent_13 : decode cX7_setPresent 13 = .ok (.ireturn, 1) := by decide +kernel
theorem dX7_setPresent_14 : decode cX7_setPresent 14 = .ok (.aload_n 0, 1) := by decide +kernel
theorem dX7_setPresent_15 : decode cX7_setPresent 15 = .ok (.iload_n 1, 1) := by decide +kernel
theorem dX7_setPresent_16 : decode cX7_setPresent 16 = .ok (.bipush 6, 2) := by decide +kernel
theorem dX7_setPresent_18 : decode cX7_setPresent 18 = .ok (.iload_n 2, 1) := by decide +kernel
theorem dX7_setPresent_19 : decode cX7_setPresent 19 = .ok (.ifCond .eq 7, 3) := by decide +kernel
theorem dX7_setPresent_22 : decode cX7_setPresent 22 = .ok (.iconst 1, 1) := by decide +kernel
theorem dX7_setPresent_23 : decode cX7_setPresent 23 = .ok (.goto 4, 3) := by decide +kernel
theorem dX7_setPresent_26 : decode cX7_setPresent 26 = .ok (.iconst 0, 1) := by decide +kernel
theorem dX7_setPresent_27 : decode cX7_setPresent 27 = .ok (.invokevirtual 410, 3) := by decide +kernel
theorem dX7_setPresent_30 : decode cX7_setPresent 30 = .ok (.istore_n 3, 1) := by decide +kernel
theorem dX7_setPresent_31 : decode cX7_setPresent 31 = .ok (.aload_n 0, 1) := by decide +kernel
theorem dX7_setPresent_32 : decode cX7_setPresent 32 = .ok (.iload_n 1, 1) := by decide +kernel
theorem dX7_setPresent_33 : decode cX7_setPresent 33 = .ok (.invokevirtual 78, 3) := by decide +kernel
theorem dX7_setPresent_36 : decode cX7_setPresent 36 = .ok (.ireturn, 1) := by decide +kernel
theorem dX7_plan_0 : decode cX7_plan 0 = .ok (.iload_n 1, 1) := by decide +kernel
theorem dX7_plan_1 : decode cX7_plan 1 = .ok (.i2l, 1) := by decide +kernel
theorem dX7_plan_2 : decode cX7_plan 2 = .ok (.aload_n 0, 1) := by decide +kernel
theorem dX7_plan_3 : decode cX7_plan 3 = .ok (.getfield 17, 3) := by decide +kernel
theorem dX7_plan_6 : decode cX7_plan 6 = .ok (.iconst 1, 1) := by decide +kernel
theorem dX7_plan_7 : decode cX7_plan 7 = .ok (.iaload, 1) := by decide +kernel
theorem dX7_plan_8 : decode cX7_plan 8 = .ok (.i2l, 1) := by decide +kernel
theorem dX7_plan_9 : decode cX7_plan 9 = .ok (.lconst 1, 1) := by decide +kernel
theorem dX7_plan_10 : decode cX7_plan 10 = .ok (.ladd, 1) := by decide +kernel
theorem dX7_plan_11 : decode cX7_plan 11 = .ok (.aload_n 0, 1) := by decide +kernel
theorem dX7_plan_12 : decode cX7_plan 12 = .ok (.getfield 17, 3) := by decide +kernel
theorem dX7_plan_15 : decode cX7_plan 15 = .ok (.iconst 1, 1) := by decide +kernel
theorem dX7_plan_16 : decode cX7_plan 16 = .ok (.iaload, 1) := by decide +kernel
theorem dX7_plan_17 : decode cX7_plan 17 = .ok (.i2l, 1) := by decide +kernel
theorem dX7_plan_18 : decode cX7_plan 18 = .ok (.ldc2_w 413, 3) := by decide +kernel
theorem dX7_plan_21 : decode cX7_plan 21 = .ok (.ladd, 1) := by decide +kernel
theorem dX7_plan_22 : decode cX7_plan 22 = .ok (.invokestatic 60, 3) := by decide +kernel
theorem dX7_plan_25 : decode cX7_plan 25 = .ok (.ifCond .eq 19, 3) := by decide +kernel
theorem dX7_plan_28 : decode cX7_plan 28 = .ok (.iload_n 3, 1) := by decide +kernel
theorem dX7_plan_29 : decode cX7_plan 29 = .ok (.i2l, 1) := by decide +kernel
theorem dX7_plan_30 : decode cX7_plan 30 = .ok (.lconst 0, 1) := by decide +kernel
theorem dX7_plan_31 : decode cX7_plan 31 = .ok (.ldc2_w 415, 3) := by decide +kernel
theorem dX7_plan_34 : decode cX7_plan 34 = .ok (.invokestatic 60, 3) := by decide +kernel
theorem dX7_plan_37 : decode cX7_plan 37 = .ok (.ifCond .eq 7, 3) := by decide +kernel
theorem dX7_plan_40 : decode cX7_plan 40 = .ok (.iconst 1, 1) := by decide +kernel
theorem dX7_plan_41 : decode cX7_plan 41 = .ok (.goto 4, 3) := by decide +kernel
theorem dX7_plan_44 : decode cX7_plan 44 = .ok (.iconst 0, 1) := by decide +kernel
theorem dX7_plan_45 : decode cX7_plan 45 = .ok (.istore 4, 2) := by decide +kernel
theorem dX7_plan_47 : decode cX7_plan 47 = .ok (.aload_n 0, 1) := by decide +kernel
theorem dX7_plan_48 : decode cX7_plan 48 = .ok (.aload_n 0, 1) := by decide +kernel
theorem dX7_plan_49 : decode cX7_plan 49 = .ok (.iload_n 2, 1) := by decide +kernel
theorem dX7_plan_50 : decode cX7_plan 50 = .ok (.invokevirtual 347, 3) := by decide +kernel
theorem dX7_plan_53 : decode cX7_plan 53 = .ok (.iload 4, 2) := by decide +kernel
theorem dX7_plan_55 : decode cX7_plan 55 = .ok (.aload_n 0, 1) := by decide +kernel
theorem dX7_plan_56 : decode cX7_plan 56 = .ok (.getfield 17, 3) := by decide +kernel
theorem dX7_plan_59 : decode cX7_plan 59 = .ok (.iconst 3, 1) := by decide +kernel
theorem dX7_plan_60 : decode cX7_plan 60 = .ok (.iaload, 1) := by decide +kernel
theorem dX7_plan_61 : decode cX7_plan 61 = .ok (.bipush 20, 2) := by decide +kernel
theorem dX7_plan_63 : decode cX7_plan 63 = .ok (.if_icmp .ge 7, 3) := by decide +kernel
theorem dX7_plan_66 : decode cX7_plan 66 = .ok (.iconst 1, 1) := by decide +kernel
theorem dX7_plan_67 : decode cX7_plan 67 = .ok (.goto 4, 3) := by decide +kernel
theorem dX7_plan_70 : decode cX7_plan 70 = .ok (.iconst 0, 1) := by decide +kernel
theorem dX7_plan_71 : decode cX7_plan 71 = .ok (.invokevirtual 7, 3) := by decide +kernel
theorem dX7_plan_74 : decode cX7_plan 74 = .ok (.ifCond .ne 5, 3) := by decide +kernel
theorem dX7_plan_77 : decode cX7_plan 77 = .ok (.iconst 0, 1) := by decide +kernel
theorem dX7_plan_78 : decode cX7_plan 78 = .ok (.ireturn, 1) := by decide +kernel
theorem dX7_plan_79 : decode cX7_plan 79 = .ok (.aload_n 0, 1) := by decide +kernel
theorem dX7_plan_80 : decode cX7_plan 80 = .ok (.invokevirtual 340, 3) := by decide +kernel
theorem dX7_plan_83 : decode cX7_plan 83 = .ok (.aload_n 0, 1) := by decide +kernel
theorem dX7_plan_84 : decode cX7_plan 84 = .ok (.iload_n 1, 1) := by decide +kernel
theorem dX7_plan_85 : decode cX7_plan 85 = .ok (.iload_n 2, 1) := by decide +kernel
theorem dX7_plan_86 : decode cX7_plan 86 = .ok (.iload_n 3, 1) := by decide +kernel
theorem dX7_plan_87 : decode cX7_plan 87 = .ok (.invokevirtual 309, 3) := by decide +kernel
theorem dX7_plan_90 : decode cX7_plan 90 = .ok (.ireturn, 1) := by decide +kernel
theorem dX7_dropPlan_0 : decode cX7_dropPlan 0 = .ok (.aload_n 0, 1) := by decide +kernel
theorem dX7_dropPlan_1 : decode cX7_dropPlan 1 = .ok (.iload_n 1, 1) := by decide +kernel
theorem dX7_dropPlan_2 : decode cX7_dropPlan 2 = .ok (.i2l, 1) := by decide +kernel
theorem dX7_dropPlan_3 : decode cX7_dropPlan 3 = .ok (.lconst 0, 1) := by decide +kernel
theorem dX7_dropPlan_4 : decode cX7_dropPlan 4 = .ok (.aload_n 0, 1) := by decide +kernel
theorem dX7_dropPlan_5 : decode cX7_dropPlan 5 = .ok (.getfield 17, 3) := by decide +kernel
theorem dX7_dropPlan_8 : decode cX7_dropPlan 8 = .ok (.iconst 3, 1) := by decide +kernel
theorem dX7_dropPlan_9 : decode cX7_dropPlan 9 = .ok (.iaload, 1) := by decide +kernel
theorem dX7_dropPlan_10 : decode cX7_dropPlan 10 = .ok (.iconst 1, 1) := by decide +kernel
theorem dX7_dropPlan_11 : decode cX7_dropPlan 11 = .ok (.isub, 1) := by decide +kernel
theorem dX7_dropPlan_12 : decode cX7_dropPlan 12 = .ok (.i2l, 1) := by decide +kernel
theorem dX7_dropPlan_13 : decode cX7_dropPlan 13 = .ok (.invokestatic 60, 3) := by decide +kernel
theorem dX7_dropPlan_16 : decode cX7_dropPlan 16 = .ok (.invokevirtual 155, 3) := by decide +kernel
theorem dX7_dropPlan_19 : decode cX7_dropPlan 19 = .ok (.ifCond .ne 5, 3) := by decide +kernel
theorem dX7_dropPlan_22 : decode cX7_dropPlan 22 = .ok (.iconst 0, 1) := by decide +kernel
theorem dX7_dropPlan_23 : decode cX7_dropPlan 23 = .ok (.ireturn, 1) := by decide +kernel
theorem dX7_dropPlan_24 : decode cX7_dropPlan 24 = .ok (.aload_n 0, 1) := by decide +kernel
theorem dX7_dropPlan_25 : decode cX7_dropPlan 25 = .ok (.invokevirtual 340, 3) := by decide +kernel
theorem dX7_dropPlan_28 : decode cX7_dropPlan 28 = .ok (.aload_n 0, 1) := by decide +kernel
theorem dX7_dropPlan_29 : decode cX7_dropPlan 29 = .ok (.iload_n 1, 1) := by decide +kernel
theorem dX7_dropPlan_30 : decode cX7_dropPlan 30 = .ok (.iconst 1, 1) := by decide +kernel
theorem dX7_dropPlan_31 : decode cX7_dropPlan 31 = .ok (.invokevirtual 138, 3) := by decide +kernel
theorem dX7_dropPlan_34 : decode cX7_dropPlan 34 = .ok (.aload_n 0, 1) := by decide +kernel
theorem dX7_dropPlan_35 : decode cX7_dropPlan 35 = .ok (.getfield 17, 3) := by decide +kernel
theorem dX7_dropPlan_38 : decode cX7_dropPlan 38 = .ok (.iconst 3, 1) := by decide +kernel
theorem dX7_dropPlan_39 : decode cX7_dropPlan 39 = .ok (.iaload, 1) := by decide +kernel
theorem dX7_dropPlan_40 : decode cX7_dropPlan 40 = .ok (.ireturn, 1) := by decide +kernel
theorem dX7_setOutside_0 : decode cX7_setOutside 0 = .ok (.aload_n 0, 1) := by decide +kernel
theorem dX7_setOutside_1 : decode cX7_setOutside 1 = .ok (.iload_n 1, 1) := by decide +kernel
theorem dX7_setOutside_2 : decode cX7_setOutside 2 = .ok (.invokestatic 395, 3) := by decide +kernel
theorem dX7_setOutside_5 : decode cX7_setOutside 5 = .ok (.invokevirtual 155, 3) := by decide +kernel
theorem dX7_setOutside_8 : decode cX7_setOutside 8 = .ok (.ifCond .ne 5, 3) := by decide +kernel
theorem dX7_setOutside_11 : decode cX7_setOutside 11 = .ok (.iconst 0, 1) := by decide +kernel
theorem dX7_setOutside_12 : decode cX7_setOutside 12 = .ok (.ireturn, 1) := by decide +kernel
theorem dX7_setOutside_13 : decode cX7_setOutside 13 = .ok (.aload_n 0, 1) := by decide +kernel
theorem dX7_setOutside_14 : decode cX7_setOutside 14 = .ok (.invokevirtual 340, 3) := by decide +kernel
theorem dX7_setOutside_17 : decode cX7_setOutside 17 = .ok (.aload_n 0, 1) := by decide +kernel
theorem dX7_setOutside_18 : decode cX7_setOutside 18 = .ok (.getfield 17, 3) := by decide +kernel
theorem dX7_setOutside_21 : decode cX7_setOutside 21 = .ok (.iconst 2, 1) := by decide +kernel
theorem dX7_setOutside_22 : decode cX7_setOutside 22 = .ok (.iaload, 1) := by decide +kernel
theorem dX7_setOutside_23 : decode cX7_setOutside 23 = .ok (.istore_n 2, 1) := by decide +kernel
theorem dX7_setOutside_24 : decode cX7_setOutside 24 = .ok (.aload_n 0, 1) := by decide +kernel
theorem dX7_setOutside_25 : decode cX7_setOutside 25 = .ok (.getfield 17, 3) := by decide +kernel
theorem dX7_setOutside_28 : decode cX7_setOutside 28 = .ok (.iconst 2, 1) := by decide +kernel
theorem dX7_setOutside_29 : decode cX7_setOutside 29 = .ok (.iload_n 1, 1) := by decide +kernel
theorem dX7_setOutside_30 : decode cX7_setOutside 30 = .ok (.iastore, 1) := by decide +kernel
theorem dX7_setOutside_31 : decode cX7_setOutside 31 = .ok (.iload_n 2, 1) := by decide +kernel
theorem dX7_setOutside_32 : decode cX7_setOutside 32 = .ok (.ireturn, 1) := by decide +kernel
theorem dX7_setControl_0 : decode cX7_setControl 0 = .ok (.aload_n 0, 1) := by decide +kernel
theorem dX7_setControl_1 : decode cX7_setControl 1 = .ok (.iload_n 1, 1) := by decide +kernel
theorem dX7_setControl_2 : decode cX7_setControl 2 = .ok (.i2l, 1) := by decide +kernel
theorem dX7_setControl_3 : decode cX7_setControl 3 = .ok (.lconst 0, 1) := by decide +kernel
theorem dX7_setControl_4 : decode cX7_setControl 4 = .ok (.ldc2_w 403, 3) := by decide +kernel
theorem dX7_setControl_7 : decode cX7_setControl 7 = .ok (.invokestatic 60, 3) := by decide +kernel
theorem dX7_setControl_10 : decode cX7_setControl 10 = .ok (.ifCond .eq 31, 3) := by decide +kernel
theorem dX7_setControl_13 : decode cX7_setControl 13 = .ok (.iload_n 2, 1) := by decide +kernel
theorem dX7_setControl_14 : decode cX7_setControl 14 = .ok (.i2l, 1) := by decide +kernel
theorem dX7_setControl_15 : decode cX7_setControl 15 = .ok (.lconst 1, 1) := by decide +kernel
theorem dX7_setControl_16 : decode cX7_setControl 16 = .ok (.ldc2_w 403, 3) := by decide +kernel
theorem dX7_setControl_19 : decode cX7_setControl 19 = .ok (.invokestatic 60, 3) := by decide +kernel
theorem dX7_setControl_22 : decode cX7_setControl 22 = .ok (.ifCond .eq 19, 3) := by decide +kernel
theorem dX7_setControl_25 : decode cX7_setControl 25 = .ok (.iload_n 3, 1) := by decide +kernel
theorem dX7_setControl_26 : decode cX7_setControl 26 = .ok (.i2l, 1) := by decide +kernel
theorem dX7_setControl_27 : decode cX7_setControl 27 = .ok (.lconst 1, 1) := by decide +kernel
theorem dX7_setControl_28 : decode cX7_setControl 28 = .ok (.ldc2_w 91, 3) := by decide +kernel
theorem dX7_setControl_31 : decode cX7_setControl 31 = .ok (.invokestatic 60, 3) := by decide +kernel
theorem dX7_setControl_34 : decode cX7_setControl 34 = .ok (.ifCond .eq 7, 3) := by decide +kernel
theorem dX7_setControl_37 : decode cX7_setControl 37 = .ok (.iconst 1, 1) := by decide +kernel
theorem dX7_setControl_38 : decode cX7_setControl 38 = .ok (.goto 4, 3) := by decide +kernel
theorem dX7_setControl_41 : decode cX7_setControl 41 = .ok (.iconst 0, 1) := by decide +kernel
theorem dX7_setControl_42 : decode cX7_setControl 42 = .ok (.invokevirtual 155, 3) := by decide +kernel
theorem dX7_setControl_45 : decode cX7_setControl 45 = .ok (.ifCond .ne 5, 3) := by decide +kernel
theorem dX7_setControl_48 : decode cX7_setControl 48 = .ok (.iconst 0, 1) := by decide +kernel
theorem dX7_setControl_49 : decode cX7_setControl 49 = .ok (.ireturn, 1) := by decide +kernel
theorem dX7_setControl_50 : decode cX7_setControl 50 = .ok (.aload_n 0, 1) := by decide +kernel
theorem dX7_setControl_51 : decode cX7_setControl 51 = .ok (.invokevirtual 340, 3) := by decide +kernel
theorem dX7_setControl_54 : decode cX7_setControl 54 = .ok (.ldc_w 417, 3) := by decide +kernel
theorem dX7_setControl_57 : decode cX7_setControl 57 = .ok (.aload_n 0, 1) := by decide +kernel
theorem dX7_setControl_58 : decode cX7_setControl 58 = .ok (.getfield 17, 3) := by decide +kernel
theorem dX7_setControl_61 : decode cX7_setControl 61 = .ok (.bipush 7, 2) := by decide +kernel
theorem dX7_setControl_63 : decode cX7_setControl 63 = .ok (.iaload, 1) := by decide +kernel
theorem dX7_setControl_64 : decode cX7_setControl 64 = .ok (.imul, 1) := by decide +kernel
theorem dX7_setControl_65 : decode cX7_setControl 65 = .ok (.sipush 1000, 3) := by decide +kernel
theorem dX7_setControl_68 : decode cX7_setControl 68 = .ok (.aload_n 0, 1) := by decide +kernel
theorem dX7_setControl_69 : decode cX7_setControl 69 = .ok (.getfield 17, 3) := by decide +kernel
theorem dX7_setControl_72 : decode cX7_setControl 72 = .ok (.bipush 8, 2) := by decide +kernel
theorem dX7_setControl_74 : decode cX7_setControl 74 = .ok (.iaload, 1) := by decide +kernel
theorem dX7_setControl_75 : decode cX7_setControl 75 = .ok (.imul, 1) := by decide +kernel
theorem dX7_setControl_76 : decode cX7_setControl 76 = .ok (.iadd, 1) := by decide +kernel
theorem dX7_setControl_77 : decode cX7_setControl 77 = .ok (.aload_n 0, 1) := by decide +kernel
theorem dX7_setControl_78 : decode cX7_setControl 78 = .ok (.getfield 17, 3) := by decide +kernel
theorem dX7_setControl_81 : decode cX7_setControl 81 = .ok (.bipush 9, 2) := by decide +kernel
theorem dX7_setControl_83 : decode cX7_setControl 83 = .ok (.iaload, 1) := by decide +kernel
theorem dX7_setControl_84 : decode cX7_setControl 84 = .ok (.iadd, 1) := by decide +kernel
theorem dX7_setControl_85 : decode cX7_setControl 85 = .ok (.istore 4, 2) := by decide +kernel
theorem dX7_setControl_87 : decode cX7_setControl 87 = .ok (.aload_n 0, 1) := by decide +kernel
theorem dX7_setControl_88 : decode cX7_setControl 88 = .ok (.getfield 17, 3) := by decide +kernel
theorem dX7_setControl_91 : decode cX7_setControl 91 = .ok (.bipush 7, 2) := by decide +kernel
theorem dX7_setControl_93 : decode cX7_setControl 93 = .ok (.iload_n 1, 1) := by decide +kernel
theorem dX7_setControl_94 : decode cX7_setControl 94 = .ok (.iastore, 1) := by decide +kernel
theorem dX7_setControl_95 : decode cX7_setControl 95 = .ok (.aload_n 0, 1) := by decide +kernel
theorem dX7_setControl_96 : decode cX7_setControl 96 = .ok (.getfield 17, 3) := by decide +kernel
theorem dX7_setControl_99 : decode cX7_setControl 99 = .ok (.bipush 8, 2) := by decide +kernel
theorem dX7_setControl_101 : decode cX7_setControl 101 = .ok (.iload_n 2, 1) := by decide +kernel
theorem dX7_setControl_102 : decode cX7_setControl 102 = .ok (.iastore, 1) := by decide +kernel
theorem dX7_setControl_103 : decode cX7_setControl 103 = .ok (.aload_n 0, 1) := by decide +kernel
theorem dX7_setControl_104 : decode cX7_setControl 104 = .ok (.getfield 17, 3) := by decide +kernel
theorem dX7_setControl_107 : decode cX7_setControl 107 = .ok (.bipush 9, 2) := by decide +kernel
theorem dX7_setControl_109 : decode cX7_setControl 109 = .ok (.iload_n 3, 1) := by decide +kernel
theorem dX7_setControl_110 : decode cX7_setControl 110 = .ok (.iastore, 1) := by decide +kernel
theorem dX7_setControl_111 : decode cX7_setControl 111 = .ok (.iload 4, 2) := by decide +kernel
theorem dX7_setControl_113 : decode cX7_setControl 113 = .ok (.ireturn, 1) := by decide +kernel
theorem dX7_newBattery_0 : decode cX7_newBattery 0 = .ok (.aload_n 0, 1) := by decide +kernel
theorem dX7_newBattery_1 : decode cX7_newBattery 1 = .ok (.aload_n 0, 1) := by decide +kernel
theorem dX7_newBattery_2 : decode cX7_newBattery 2 = .ok (.iload_n 1, 1) := by decide +kernel
theorem dX7_newBattery_3 : decode cX7_newBattery 3 = .ok (.invokevirtual 347, 3) := by decide +kernel
theorem dX7_newBattery_6 : decode cX7_newBattery 6 = .ok (.iload_n 2, 1) := by decide +kernel
theorem dX7_newBattery_7 : decode cX7_newBattery 7 = .ok (.i2l, 1) := by decide +kernel
theorem dX7_newBattery_8 : decode cX7_newBattery 8 = .ok (.lconst 1, 1) := by decide +kernel
theorem dX7_newBattery_9 : decode cX7_newBattery 9 = .ok (.ldc2_w 413, 3) := by decide +kernel
theorem dX7_newBattery_12 : decode cX7_newBattery 12 = .ok (.invokestatic 60, 3) := by decide +kernel
theorem dX7_newBattery_15 : decode cX7_newBattery 15 = .ok (.invokevirtual 352, 3) := by decide +kernel
theorem dX7_newBattery_18 : decode cX7_newBattery 18 = .ok (.ifCond .eq 13, 3) := by decide +kernel
theorem dX7_newBattery_21 : decode cX7_newBattery 21 = .ok (.aload_n 0, 1) := by decide +kernel
theorem dX7_newBattery_22 : decode cX7_newBattery 22 = .ok (.iload_n 1, 1) := by decide +kernel
theorem dX7_newBattery_23 : decode cX7_newBattery 23 = .ok (.iconst 2, 1) := by decide +kernel
theorem dX7_newBattery_24 : decode cX7_newBattery 24 = .ok (.iload_n 2, 1) := by decide +kernel
theorem dX7_newBattery_25 : decode cX7_newBattery 25 = .ok (.invokevirtual 410, 3) := by decide +kernel
theorem dX7_newBattery_28 : decode cX7_newBattery 28 = .ok (.goto 4, 3) := by decide +kernel
theorem dX7_newBattery_31 : decode cX7_newBattery 31 = .ok (.iconst 0, 1) := by decide +kernel
theorem dX7_newBattery_32 : decode cX7_newBattery 32 = .ok (.ireturn, 1) := by decide +kernel
theorem dX7_turn_0 : decode cX7_turn 0 = .ok (.aload_n 0, 1) := by decide +kernel
theorem dX7_turn_1 : decode cX7_turn 1 = .ok (.aload_n 0, 1) := by decide +kernel
theorem dX7_turn_2 : decode cX7_turn 2 = .ok (.iload_n 1, 1) := by decide +kernel
theorem dX7_turn_3 : decode cX7_turn 3 = .ok (.invokevirtual 347, 3) := by decide +kernel
theorem dX7_turn_6 : decode cX7_turn 6 = .ok (.iload_n 2, 1) := by decide +kernel
theorem dX7_turn_7 : decode cX7_turn 7 = .ok (.i2l, 1) := by decide +kernel
theorem dX7_turn_8 : decode cX7_turn 8 = .ok (.lconst 0, 1) := by decide +kernel
theorem dX7_turn_9 : decode cX7_turn 9 = .ok (.ldc2_w 91, 3) := by decide +kernel
theorem dX7_turn_12 : decode cX7_turn 12 = .ok (.invokestatic 60, 3) := by decide +kernel
theorem dX7_turn_15 : decode cX7_turn 15 = .ok (.invokevirtual 352, 3) := by decide +kernel
theorem dX7_turn_18 : decode cX7_turn 18 = .ok (.ifCond .eq 13, 3) := by decide +kernel
theorem dX7_turn_21 : decode cX7_turn 21 = .ok (.aload_n 0, 1) := by decide +kernel
theorem dX7_turn_22 : decode cX7_turn 22 = .ok (.iload_n 1, 1) := by decide +kernel
theorem dX7_turn_23 : decode cX7_turn 23 = .ok (.iconst 1, 1) := by decide +kernel
theorem dX7_turn_24 : decode cX7_turn 24 = .ok (.iload_n 2, 1) := by decide +kernel
theorem dX7_turn_25 : decode cX7_turn 25 = .ok (.invokevirtual 410, 3) := by decide +kernel
theorem dX7_turn_28 : decode cX7_turn 28 = .ok (.goto 4, 3) := by decide +kernel
theorem dX7_turn_31 : decode cX7_turn 31 = .ok (.iconst 0, 1) := by decide +kernel
theorem dX7_turn_32 : decode cX7_turn 32 = .ok (.ireturn, 1) := by decide +kernel
theorem dX7_isKeep_0 : decode cX7_isKeep 0 = .ok (.iload_n 0, 1) := by decide +kernel
theorem dX7_isKeep_1 : decode cX7_isKeep 1 = .ok (.i2l, 1) := by decide +kernel
theorem dX7_isKeep_2 : decode cX7_isKeep 2 = .ok (.lconst 0, 1) := by decide +kernel
theorem dX7_isKeep_3 : decode cX7_isKeep 3 = .ok (.lconst 1, 1) := by decide +kernel
theorem dX7_isKeep_4 : decode cX7_isKeep 4 = .ok (.invokestatic 60, 3) := by decide +kernel
theorem dX7_isKeep_7 : decode cX7_isKeep 7 = .ok (.ireturn, 1) := by decide +kernel
theorem dX7_keep_0 : decode cX7_keep 0 = .ok (.aload_n 0, 1) := by decide +kernel
theorem dX7_keep_1 : decode cX7_keep 1 = .ok (.iload_n 1, 1) := by decide +kernel
theorem dX7_keep_2 : decode cX7_keep 2 = .ok (.invokestatic 418, 3) := by decide +kernel
theorem dX7_keep_5 : decode cX7_keep 5 = .ok (.invokevirtual 155, 3) := by decide +kernel
theorem dX7_keep_8 : decode cX7_keep 8 = .ok (.ifCond .ne 5, 3) := by decide +kernel
theorem dX7_keep_11 : decode cX7_keep 11 = .ok (.iconst 0, 1) := by decide +kernel
theorem dX7_keep_12 : decode cX7_keep 12 = .ok (.ireturn, 1) := by decide +kernel
theorem dX7_keep_13 : decode cX7_keep 13 = .ok (.iconst 0, 1) := by decide +kernel
theorem dX7_keep_14 : decode cX7_keep 14 = .ok (.istore_n 2, 1) := by decide +kernel
theorem dX7_keep_15 : decode cX7_keep 15 = .ok (.iload_n 2, 1) := by decide +kernel
theorem dX7_keep_16 : decode cX7_keep 16 = .ok (.sipush 467, 3) := by decide +kernel
theorem dX7_keep_19 : decode cX7_keep 19 = .ok (.if_icmp .ge 27, 3) := by decide +kernel
theorem dX7_keep_22 : decode cX7_keep 22 = .ok (.aload_n 0, 1) := by decide +kernel
theorem dX7_keep_23 : decode cX7_keep 23 = .ok (.getfield 41, 3) := by decide +kernel
theorem dX7_keep_26 : decode cX7_keep 26 = .ok (.sipush 467, 3) := by decide +kernel
theorem dX7_keep_29 : decode cX7_keep 29 = .ok (.iload_n 1, 1) := by decide +kernel
theorem dX7_keep_30 : decode cX7_keep 30 = .ok (.imul, 1) := by decide +kernel
theorem dX7_keep_31 : decode cX7_keep 31 = .ok (.iload_n 2, 1) := by decide +kernel
theorem dX7_keep_32 : decode cX7_keep 32 = .ok (.iadd, 1) := by decide +kernel
theorem dX7_keep_33 : decode cX7_keep 33 = .ok (.aload_n 0, 1) := by decide +kernel
theorem dX7_keep_34 : decode cX7_keep 34 = .ok (.getfield 17, 3) := by decide +kernel
theorem dX7_keep_37 : decode cX7_keep 37 = .ok (.iload_n 2, 1) := by decide +kernel
theorem dX7_keep_38 : decode cX7_keep 38 = .ok (.iaload, 1) := by decide +kernel
theorem dX7_keep_39 : decode cX7_keep 39 = .ok (.iastore, 1) := by decide +kernel
theorem dX7_keep_40 : decode cX7_keep 40 = .ok (.iinc 2 1, 3) := by decide +kernel
theorem dX7_keep_43 : decode cX7_keep 43 = .ok (.goto (-28), 3) := by decide +kernel
theorem dX7_keep_46 : decode cX7_keep 46 = .ok (.aload_n 0, 1) := by decide +kernel
theorem dX7_keep_47 : decode cX7_keep 47 = .ok (.getfield 44, 3) := by decide +kernel
theorem dX7_keep_50 : decode cX7_keep 50 = .ok (.iload_n 1, 1) := by decide +kernel
theorem dX7_keep_51 : decode cX7_keep 51 = .ok (.iconst 1, 1) := by decide +kernel
theorem dX7_keep_52 : decode cX7_keep 52 = .ok (.bastore, 1) := by decide +kernel
theorem dX7_keep_53 : decode cX7_keep 53 = .ok (.aload_n 0, 1) := by decide +kernel
theorem dX7_keep_54 : decode cX7_keep 54 = .ok (.getfield 17, 3) := by decide +kernel
theorem dX7_keep_57 : decode cX7_keep 57 = .ok (.iconst 1, 1) := by decide +kernel
theorem dX7_keep_58 : decode cX7_keep 58 = .ok (.iaload, 1) := by decide +kernel
theorem dX7_keep_59 : decode cX7_keep 59 = .ok (.ireturn, 1) := by decide +kernel
theorem dX7_restore_0 : decode cX7_restore 0 = .ok (.aload_n 0, 1) := by decide +kernel
theorem dX7_restore_1 : decode cX7_restore 1 = .ok (.iload_n 1, 1) := by decide +kernel
theorem dX7_restore_2 : decode cX7_restore 2 = .ok (.invokestatic 418, 3) := by decide +kernel
theorem dX7_restore_5 : decode cX7_restore 5 = .ok (.iload_n 1, 1) := by decide +kernel
theorem dX7_restore_6 : decode cX7_restore 6 = .ok (.invokestatic 418, 3) := by decide +kernel
theorem dX7_restore_9 : decode cX7_restore 9 = .ok (.ifCond .eq 12, 3) := by decide +kernel
theorem dX7_restore_12 : decode cX7_restore 12 = .ok (.aload_n 0, 1) := by decide +kernel
theorem dX7_restore_13 : decode cX7_restore 13 = .ok (.getfield 44, 3) := by decide +kernel
theorem dX7_restore_16 : decode cX7_restore 16 = .ok (.iload_n 1, 1) := by decide +kernel
theorem dX7_restore_17 : decode cX7_restore 17 = .ok (.baload, 1) := by decide +kernel
theorem dX7_restore_18 : decode cX7_restore 18 = .ok (.ifCond .eq 7, 3) := by decide +kernel
theorem dX7_restore_21 : decode cX7_restore 21 = .ok (.iconst 1, 1) := by decide +kernel
theorem dX7_restore_22 : decode cX7_restore 22 = .ok (.goto 4, 3) := by decide +kernel
theorem dX7_restore_25 : decode cX7_restore 25 = .ok (.iconst 0, 1) := by decide +kernel
theorem dX7_restore_26 : decode cX7_restore 26 = .ok (.invokevirtual 352, 3) := by decide +kernel
theorem dX7_restore_29 : decode cX7_restore 29 = .ok (.ifCond .ne 5, 3) := by decide +kernel
theorem dX7_restore_32 : decode cX7_restore 32 = .ok (.iconst 0, 1) := by decide +kernel
theorem dX7_restore_33 : decode cX7_restore 33 = .ok (.ireturn, 1) := by decide +kernel
theorem dX7_restore_34 : decode cX7_restore 34 = .ok (.aload_n 0, 1) := by decide +kernel
theorem dX7_restore_35 : decode cX7_restore 35 = .ok (.invokevirtual 340, 3) := by decide +kernel
theorem dX7_restore_38 : decode cX7_restore 38 = .ok (.iconst 0, 1) := by decide +kernel
theorem dX7_restore_39 : decode cX7_restore 39 = .ok (.istore_n 2, 1) := by decide +kernel
theorem dX7_restore_40 : decode cX7_restore 40 = .ok (.iload_n 2, 1) := by decide +kernel
theorem dX7_restore_41 : decode cX7_restore 41 = .ok (.sipush 467, 3) := by decide +kernel
theorem dX7_restore_44 : decode cX7_restore 44 = .ok (.if_icmp .ge 27, 3) := by decide +kernel
theorem dX7_restore_47 : decode cX7_restore 47 = .ok (.aload_n 0, 1) := by decide +kernel
theorem dX7_restore_48 : decode cX7_restore 48 = .ok (.getfield 17, 3) := by decide +kernel
theorem dX7_restore_51 : decode cX7_restore 51 = .ok (.iload_n 2, 1) := by decide +kernel
theorem dX7_restore_52 : decode cX7_restore 52 = .ok (.aload_n 0, 1) := by decide +kernel
theorem dX7_restore_53 : decode cX7_restore 53 = .ok (.getfield 41, 3) := by decide +kernel
theorem dX7_restore_56 : decode cX7_restore 56 = .ok (.sipush 467, 3) := by decide +kernel
theorem dX7_restore_59 : decode cX7_restore 59 = .ok (.iload_n 1, 1) := by decide +kernel
theorem dX7_restore_60 : decode cX7_restore 60 = .ok (.imul, 1) := by decide +kernel
theorem dX7_restore_61 : decode cX7_restore 61 = .ok (.iload_n 2, 1) := by decide +kernel
theorem dX7_restore_62 : decode cX7_restore 62 = .ok (.iadd, 1) := by decide +kernel
theorem dX7_restore_63 : decode cX7_restore 63 = .ok (.iaload, 1) := by decide +kernel
theorem dX7_restore_64 : decode cX7_restore 64 = .ok (.iastore, 1) := by decide +kernel
theorem dX7_restore_65 : decode cX7_restore 65 = .ok (.iinc 2 1, 3) := by decide +kernel
theorem dX7_restore_68 : decode cX7_restore 68 = .ok (.goto (-28), 3) := by decide +kernel
theorem dX7_restore_71 : decode cX7_restore 71 = .ok (.aload_n 0, 1) := by decide +kernel
theorem dX7_restore_72 : decode cX7_restore 72 = .ok (.getfield 17, 3) := by decide +kernel
theorem dX7_restore_75 : decode cX7_restore 75 = .ok (.iconst 1, 1) := by decide +kernel
theorem dX7_restore_76 : decode cX7_restore 76 = .ok (.iaload, 1) := by decide +kernel
theorem dX7_restore_77 : decode cX7_restore 77 = .ok (.ireturn, 1) := by decide +kernel
theorem dX7_remember_0 : decode cX7_remember 0 = .ok (.aload_n 0, 1) := by decide +kernel
theorem dX7_remember_1 : decode cX7_remember 1 = .ok (.getfield 421, 3) := by decide +kernel
theorem dX7_remember_4 : decode cX7_remember 4 = .ok (.bipush 6, 2) := by decide +kernel
theorem dX7_remember_6 : decode cX7_remember 6 = .ok (.if_icmp .ne 46, 3) := by decide +kernel
theorem dX7_remember_9 : decode cX7_remember 9 = .ok (.sipush 467, 3) := by decide +kernel
theorem dX7_remember_12 : decode cX7_remember 12 = .ok (.istore_n 1, 1) := by decide +kernel
theorem dX7_remember_13 : decode cX7_remember 13 = .ok (.iload_n 1, 1) := by decide +kernel
theorem dX7_remember_14 : decode cX7_remember 14 = .ok (.sipush 2802, 3) := by decide +kernel
theorem dX7_remember_17 : decode cX7_remember 17 = .ok (.if_icmp .ge 25, 3) := by decide +kernel
theorem dX7_remember_20 : decode cX7_remember 20 = .ok (.aload_n 0, 1) := by decide +kernel
theorem dX7_remember_21 : decode cX7_remember 21 = .ok (.getfield 47, 3) := by decide +kernel
theorem dX7_remember_24 : decode cX7_remember 24 = .ok (.iload_n 1, 1) := by decide +kernel
theorem dX7_remember_25 : decode cX7_remember 25 = .ok (.sipush 467, 3) := by decide +kernel
theorem dX7_remember_28 : decode cX7_remember 28 = .ok (.isub, 1) := by decide +kernel
theorem dX7_remember_29 : decode cX7_remember 29 = .ok (.aload_n 0, 1) := by decide +kernel
theorem dX7_remember_30 : decode cX7_remember 30 = .ok (.getfield 47, 3) := by decide +kernel
theorem dX7_remember_33 : decode cX7_remember 33 = .ok (.iload_n 1, 1) := by decide +kernel
theorem dX7_remember_34 : decode cX7_remember 34 = .ok (.iaload, 1) := by decide +kernel
theorem dX7_remember_35 : decode cX7_remember 35 = .ok (.iastore, 1) := by decide +kernel
theorem dX7_remember_36 : decode cX7_remember 36 = .ok (.iinc 1 1, 3) := by decide +kernel
theorem dX7_remember_39 : decode cX7_remember 39 = .ok (.goto (-26), 3) := by decide +kernel
theorem dX7_remember_42 : decode cX7_remember 42 = .ok (.aload_n 0, 1) := by decide +kernel
theorem dX7_remember_43 : decode cX7_remember 43 = .ok (.dup, 1) := by decide +kernel
theorem dX7_remember_44 : decode cX7_remember 44 = .ok (.getfield 421, 3) := by decide +kernel
theorem dX7_remember_47 : decode cX7_remember 47 = .ok (.iconst 1, 1) := by decide +kernel
theorem dX7_remember_48 : decode cX7_remember 48 = .ok (.isub, 1) := by decide +kernel
theorem dX7_remember_49 : decode cX7_remember 49 = .ok (.putfield 421, 3) := by decide +kernel
theorem dX7_remember_52 : decode cX7_remember 52 = .ok (.iconst 0, 1) := by decide +kernel
theorem dX7_remember_53 : decode cX7_remember 53 = .ok (.istore_n 1, 1) := by decide +kernel
theorem dX7_remember_54 : decode cX7_remember 54 = .ok (.iload_n 1, 1) := by decide +kernel
theorem dX7_remember_55 : decode cX7_remember 55 = .ok (.sipush 467, 3) := by decide +kernel
theorem dX7_remember_58 : decode cX7_remember 58 = .ok (.if_icmp .ge 30, 3) := by decide +kernel
theorem dX7_remember_61 : decode cX7_remember 61 = .ok (.aload_n 0, 1) := by decide +kernel
theorem dX7_remember_62 : decode cX7_remember 62 = .ok (.getfield 47, 3) := by decide +kernel
theorem dX7_remember_65 : decode cX7_remember 65 = .ok (.sipush 467, 3) := by decide +kernel
theorem dX7_remember_68 : decode cX7_remember 68 = .ok (.aload_n 0, 1) := by decide +kernel
theorem dX7_remember_69 : decode cX7_remember 69 = .ok (.getfield 421, 3) := by decide +kernel
theorem dX7_remember_72 : decode cX7_remember 72 = .ok (.imul, 1) := by decide +kernel
theorem dX7_remember_73 : decode cX7_remember 73 = .ok (.iload_n 1, 1) := by decide +kernel
theorem dX7_remember_74 : decode cX7_remember 74 = .ok (.iadd, 1) := by decide +kernel
theorem dX7_remember_75 : decode cX7_remember 75 = .ok (.aload_n 0, 1) := by decide +kernel
theorem dX7_remember_76 : decode cX7_remember 76 = .ok (.getfield 17, 3) := by decide +kernel
theorem dX7_remember_79 : decode cX7_remember 79 = .ok (.iload_n 1, 1) := by decide +kernel
theorem dX7_remember_80 : decode cX7_remember 80 = .ok (.iaload, 1) := by decide +kernel
theorem dX7_remember_81 : decode cX7_remember 81 = .ok (.iastore, 1) := by decide +kernel
theorem dX7_remember_82 : decode cX7_remember 82 = .ok (.iinc 1 1, 3) := by decide +kernel
theorem dX7_remember_85 : decode cX7_remember 85 = .ok (.goto (-31), 3) := by decide +kernel
theorem dX7_remember_88 : decode cX7_remember 88 = .ok (.aload_n 0, 1) := by decide +kernel
theorem dX7_remember_89 : decode cX7_remember 89 = .ok (.dup, 1) := by decide +kernel
theorem dX7_remember_90 : decode cX7_remember 90 = .ok (.getfield 421, 3) := by decide +kernel
theorem dX7_remember_93 : decode cX7_remember 93 = .ok (.iconst 1, 1) := by decide +kernel
theorem dX7_remember_94 : decode cX7_remember 94 = .ok (.iadd, 1) := by decide +kernel
theorem dX7_remember_95 : decode cX7_remember 95 = .ok (.putfield 421, 3) := by decide +kernel
theorem dX7_remember_98 : decode cX7_remember 98 = .ok (.return_, 1) := by decide +kernel
theorem dX7_undo_0 : decode cX7_undo 0 = .ok (.aload_n 0, 1) := by decide +kernel
theorem dX7_undo_1 : decode cX7_undo 1 = .ok (.aload_n 0, 1) := by decide +kernel
theorem dX7_undo_2 : decode cX7_undo 2 = .ok (.getfield 421, 3) := by decide +kernel
theorem dX7_undo_5 : decode cX7_undo 5 = .ok (.ifCond .le 7, 3) := by decide +kernel
theorem dX7_undo_8 : decode cX7_undo 8 = .ok (.iconst 1, 1) := by decide +kernel
theorem dX7_undo_9 : decode cX7_undo 9 = .ok (.goto 4, 3) := by decide +kernel
theorem dX7_undo_12 : decode cX7_undo 12 = .ok (.iconst 0, 1) := by decide +kernel
theorem dX7_undo_13 : decode cX7_undo 13 = .ok (.invokevirtual 155, 3) := by decide +kernel
theorem dX7_undo_16 : decode cX7_undo 16 = .ok (.ifCond .ne 5, 3) := by decide +kernel
theorem dX7_undo_19 : decode cX7_undo 19 = .ok (.iconst 0, 1) := by decide +kernel
theorem dX7_undo_20 : decode cX7_undo 20 = .ok (.ireturn, 1) := by decide +kernel
theorem dX7_undo_21 : decode cX7_undo 21 = .ok (.aload_n 0, 1) := by decide +kernel
theorem dX7_undo_22 : decode cX7_undo 22 = .ok (.dup, 1) := by decide +kernel
theorem dX7_undo_23 : decode cX7_undo 23 = .ok (.getfield 421, 3) := by decide +kernel
theorem dX7_undo_26 : decode cX7_undo 26 = .ok (.iconst 1, 1) := by decide +kernel
theorem dX7_undo_27 : decode cX7_undo 27 = .ok (.isub, 1) := by decide +kernel
theorem dX7_undo_28 : decode cX7_undo 28 = .ok (.putfield 421, 3) := by decide +kernel
theorem dX7_undo_31 : decode cX7_undo 31 = .ok (.iconst 0, 1) := by decide +kernel
theorem dX7_undo_32 : decode cX7_undo 32 = .ok (.istore_n 1, 1) := by decide +kernel
theorem dX7_undo_33 : decode cX7_undo 33 = .ok (.iload_n 1, 1) := by decide +kernel
theorem dX7_undo_34 : decode cX7_undo 34 = .ok (.sipush 467, 3) := by decide +kernel
theorem dX7_undo_37 : decode cX7_undo 37 = .ok (.if_icmp .ge 30, 3) := by decide +kernel
theorem dX7_undo_40 : decode cX7_undo 40 = .ok (.aload_n 0, 1) := by decide +kernel
theorem dX7_undo_41 : decode cX7_undo 41 = .ok (.getfield 17, 3) := by decide +kernel
theorem dX7_undo_44 : decode cX7_undo 44 = .ok (.iload_n 1, 1) := by decide +kernel
theorem dX7_undo_45 : decode cX7_undo 45 = .ok (.aload_n 0, 1) := by decide +kernel
theorem dX7_undo_46 : decode cX7_undo 46 = .ok (.getfield 47, 3) := by decide +kernel
theorem dX7_undo_49 : decode cX7_undo 49 = .ok (.sipush 467, 3) := by decide +kernel
theorem dX7_undo_52 : decode cX7_undo 52 = .ok (.aload_n 0, 1) := by decide +kernel
theorem dX7_undo_53 : decode cX7_undo 53 = .ok (.getfield 421, 3) := by decide +kernel
theorem dX7_undo_56 : decode cX7_undo 56 = .ok (.imul, 1) := by decide +kernel
theorem dX7_undo_57 : decode cX7_undo 57 = .ok (.iload_n 1, 1) := by decide +kernel
theorem dX7_undo_58 : decode cX7_undo 58 = .ok (.iadd, 1) := by decide +kernel
theorem dX7_undo_59 : decode cX7_undo 59 = .ok (.iaload, 1) := by decide +kernel
theorem dX7_undo_60 : decode cX7_undo 60 = .ok (.iastore, 1) := by decide +kernel
theorem dX7_undo_61 : decode cX7_undo 61 = .ok (.iinc 1 1, 3) := by decide +kernel
theorem dX7_undo_64 : decode cX7_undo 64 = .ok (.goto (-31), 3) := by decide +kernel
theorem dX7_undo_67 : decode cX7_undo 67 = .ok (.aload_n 0, 1) := by decide +kernel
theorem dX7_undo_68 : decode cX7_undo 68 = .ok (.getfield 421, 3) := by decide +kernel
theorem dX7_undo_71 : decode cX7_undo 71 = .ok (.ireturn, 1) := by decide +kernel
theorem dX7_undoCount_0 : decode cX7_undoCount 0 = .ok (.aload_n 0, 1) := by decide +kernel
theorem dX7_undoCount_1 : decode cX7_undoCount 1 = .ok (.iconst 0, 1) := by decide +kernel
theorem dX7_undoCount_2 : decode cX7_undoCount 2 = .ok (.putfield 3, 3) := by decide +kernel
theorem dX7_undoCount_5 : decode cX7_undoCount 5 = .ok (.aload_n 0, 1) := by decide +kernel
theorem dX7_undoCount_6 : decode cX7_undoCount 6 = .ok (.getfield 421, 3) := by decide +kernel
theorem dX7_undoCount_9 : decode cX7_undoCount 9 = .ok (.ireturn, 1) := by decide +kernel
theorem dX7_write_0 : decode cX7_write 0 = .ok (.aload_n 0, 1) := by decide +kernel
theorem dX7_write_1 : decode cX7_write 1 = .ok (.getfield 50, 3) := by decide +kernel
theorem dX7_write_4 : decode cX7_write 4 = .ok (.aload_n 0, 1) := by decide +kernel
theorem dX7_write_5 : decode cX7_write 5 = .ok (.getfield 424, 3) := by decide +kernel
theorem dX7_write_8 : decode cX7_write 8 = .ok (.iload_n 1, 1) := by decide +kernel
theorem dX7_write_9 : decode cX7_write 9 = .ok (.i2b, 1) := by decide +kernel
theorem dX7_write_10 : decode cX7_write 10 = .ok (.bastore, 1) := by decide +kernel
theorem dX7_write_11 : decode cX7_write 11 = .ok (.aload_n 0, 1) := by decide +kernel
theorem dX7_write_12 : decode cX7_write 12 = .ok (.dup, 1) := by decide +kernel
theorem dX7_write_13 : decode cX7_write 13 = .ok (.getfield 424, 3) := by decide +kernel
theorem dX7_write_16 : decode cX7_write 16 = .ok (.iconst 1, 1) := by decide +kernel
theorem dX7_write_17 : decode cX7_write 17 = .ok (.iadd, 1) := by decide +kernel
theorem dX7_write_18 : decode cX7_write 18 = .ok (.putfield 424, 3) := by decide +kernel
theorem dX7_write_21 : decode cX7_write 21 = .ok (.return_, 1) := by decide +kernel
theorem dX7_writeInt_0 : decode cX7_writeInt 0 = .ok (.iload_n 1, 1) := by decide +kernel
theorem dX7_writeInt_1 : decode cX7_writeInt 1 = .ok (.ifCond .ge 9, 3) := by decide +kernel
theorem dX7_writeInt_4 : decode cX7_writeInt 4 = .ok (.aload_n 0, 1) := by decide +kernel
theorem dX7_writeInt_5 : decode cX7_writeInt 5 = .ok (.bipush 45, 2) := by decide +kernel
theorem dX7_writeInt_7 : decode cX7_writeInt 7 = .ok (.invokevirtual 427, 3) := by decide +kernel
theorem dX7_writeInt_10 : decode cX7_writeInt 10 = .ok (.iload_n 1, 1) := by decide +kernel
theorem dX7_writeInt_11 : decode cX7_writeInt 11 = .ok (.invokestatic 82, 3) := by decide +kernel
theorem dX7_writeInt_14 : decode cX7_writeInt 14 = .ok (.istore_n 2, 1) := by decide +kernel
theorem dX7_writeInt_15 : decode cX7_writeInt 15 = .ok (.iconst 1, 1) := by decide +kernel
theorem dX7_writeInt_16 : decode cX7_writeInt 16 = .ok (.istore_n 3, 1) := by decide +kernel
theorem dX7_writeInt_17 : decode cX7_writeInt 17 = .ok (.iload_n 2, 1) := by decide +kernel
theorem dX7_writeInt_18 : decode cX7_writeInt 18 = .ok (.iload_n 3, 1) := by decide +kernel
theorem dX7_writeInt_19 : decode cX7_writeInt 19 = .ok (.idiv, 1) := by decide +kernel
theorem dX7_writeInt_20 : decode cX7_writeInt 20 = .ok (.bipush 10, 2) := by decide +kernel
theorem dX7_writeInt_22 : decode cX7_writeInt 22 = .ok (.if_icmp .lt 11, 3) := by decide +kernel
theorem dX7_writeInt_25 : decode cX7_writeInt 25 = .ok (.iload_n 3, 1) := by decide +kernel
theorem dX7_writeInt_26 : decode cX7_writeInt 26 = .ok (.bipush 10, 2) := by decide +kernel
theorem dX7_writeInt_28 : decode cX7_writeInt 28 = .ok (.imul, 1) := by decide +kernel
theorem dX7_writeInt_29 : decode cX7_writeInt 29 = .ok (.istore_n 3, 1) := by decide +kernel
theorem dX7_writeInt_30 : decode cX7_writeInt 30 = .ok (.goto (-13), 3) := by decide +kernel
theorem dX7_writeInt_33 : decode cX7_writeInt 33 = .ok (.iload_n 3, 1) := by decide +kernel
theorem dX7_writeInt_34 : decode cX7_writeInt 34 = .ok (.istore 4, 2) := by decide +kernel
theorem dX7_writeInt_36 : decode cX7_writeInt 36 = .ok (.iload 4, 2) := by decide +kernel
theorem dX7_writeInt_38 : decode cX7_writeInt 38 = .ok (.ifCond .le 27, 3) := by decide +kernel
theorem dX7_writeInt_41 : decode cX7_writeInt 41 = .ok (.aload_n 0, 1) := by decide +kernel
theorem dX7_writeInt_42 : decode cX7_writeInt 42 = .ok (.bipush 48, 2) := by decide +kernel
theorem dX7_writeInt_44 : decode cX7_writeInt 44 = .ok (.iload_n 2, 1) := by decide +kernel
theorem dX7_writeInt_45 : decode cX7_writeInt 45 = .ok (.iload 4, 2) := by decide +kernel
theorem dX7_writeInt_47 : decode cX7_writeInt 47 = .ok (.idiv, 1) := by decide +kernel
theorem dX7_writeInt_48 : decode cX7_writeInt 48 = .ok (.bipush 10, 2) := by decide +kernel
theorem dX7_writeInt_50 : decode cX7_writeInt 50 = .ok (.irem, 1) := by decide +kernel
theorem dX7_writeInt_51 : decode cX7_writeInt 51 = .ok (.iadd, 1) := by decide +kernel
theorem dX7_writeInt_52 : decode cX7_writeInt 52 = .ok (.invokevirtual 427, 3) := by decide +kernel
theorem dX7_writeInt_55 : decode cX7_writeInt 55 = .ok (.iload 4, 2) := by decide +kernel
theorem dX7_writeInt_57 : decode cX7_writeInt 57 = .ok (.bipush 10, 2) := by decide +kernel
theorem dX7_writeInt_59 : decode cX7_writeInt 59 = .ok (.idiv, 1) := by decide +kernel
theorem dX7_writeInt_60 : decode cX7_writeInt 60 = .ok (.istore 4, 2) := by decide +kernel
theorem dX7_writeInt_62 : decode cX7_writeInt 62 = .ok (.goto (-26), 3) := by decide +kernel
theorem dX7_writeInt_65 : decode cX7_writeInt 65 = .ok (.return_, 1) := by decide +kernel
theorem dX7_writeName_0 : decode cX7_writeName 0 = .ok (.aload_n 0, 1) := by decide +kernel
theorem dX7_writeName_1 : decode cX7_writeName 1 = .ok (.iload_n 1, 1) := by decide +kernel
theorem dX7_writeName_2 : decode cX7_writeName 2 = .ok (.bipush 11, 2) := by decide +kernel
theorem dX7_writeName_4 : decode cX7_writeName 4 = .ok (.invokevirtual 68, 3) := by decide +kernel
theorem dX7_writeName_7 : decode cX7_writeName 7 = .ok (.istore_n 2, 1) := by decide +kernel
theorem dX7_writeName_8 : decode cX7_writeName 8 = .ok (.iconst 1, 1) := by decide +kernel
theorem dX7_writeName_9 : decode cX7_writeName 9 = .ok (.istore_n 3, 1) := by decide +kernel
theorem dX7_writeName_10 : decode cX7_writeName 10 = .ok (.iload_n 2, 1) := by decide +kernel
theorem dX7_writeName_11 : decode cX7_writeName 11 = .ok (.iload_n 3, 1) := by decide +kernel
theorem dX7_writeName_12 : decode cX7_writeName 12 = .ok (.idiv, 1) := by decide +kernel
theorem dX7_writeName_13 : decode cX7_writeName 13 = .ok (.bipush 27, 2) := by decide +kernel
theorem dX7_writeName_15 : decode cX7_writeName 15 = .ok (.if_icmp .lt 11, 3) := by decide +kernel
theorem dX7_writeName_18 : decode cX7_writeName 18 = .ok (.iload_n 3, 1) := by decide +kernel
theorem dX7_writeName_19 : decode cX7_writeName 19 = .ok (.bipush 27, 2) := by decide +kernel
theorem dX7_writeName_21 : decode cX7_writeName 21 = .ok (.imul, 1) := by decide +kernel
theorem dX7_writeName_22 : decode cX7_writeName 22 = .ok (.istore_n 3, 1) := by decide +kernel
theorem dX7_writeName_23 : decode cX7_writeName 23 = .ok (.goto (-13), 3) := by decide +kernel
theorem dX7_writeName_26 : decode cX7_writeName 26 = .ok (.iload_n 3, 1) := by decide +kernel
theorem dX7_writeName_27 : decode cX7_writeName 27 = .ok (.istore 4, 2) := by decide +kernel
theorem dX7_writeName_29 : decode cX7_writeName 29 = .ok (.iload 4, 2) := by decide +kernel
theorem dX7_writeName_31 : decode cX7_writeName 31 = .ok (.ifCond .le 31, 3) := by decide +kernel
theorem dX7_writeName_34 : decode cX7_writeName 34 = .ok (.iload_n 2, 1) := by decide +kernel
theorem dX7_writeName_35 : decode cX7_writeName 35 = .ok (.ifCond .le 27, 3) := by decide +kernel
theorem dX7_writeName_38 : decode cX7_writeName 38 = .ok (.aload_n 0, 1) := by decide +kernel
theorem dX7_writeName_39 : decode cX7_writeName 39 = .ok (.bipush 96, 2) := by decide +kernel
theorem dX7_writeName_41 : decode cX7_writeName 41 = .ok (.iload_n 2, 1) := by decide +kernel
theorem dX7_writeName_42 : decode cX7_writeName 42 = .ok (.iload 4, 2) := by decide +kernel
theorem dX7_writeName_44 : decode cX7_writeName 44 = .ok (.idiv, 1) := by decide +kernel
theorem dX7_writeName_45 : decode cX7_writeName 45 = .ok (.bipush 27, 2) := by decide +kernel
theorem dX7_writeName_47 : decode cX7_writeName 47 = .ok (.irem, 1) := by decide +kernel
theorem dX7_writeName_48 : decode cX7_writeName 48 = .ok (.iadd, 1) := by decide +kernel
theorem dX7_writeName_49 : decode cX7_writeName 49 = .ok (.invokevirtual 427, 3) := by decide +kernel
theorem dX7_writeName_52 : decode cX7_writeName 52 = .ok (.iload 4, 2) := by decide +kernel
theorem dX7_writeName_54 : decode cX7_writeName 54 = .ok (.bipush 27, 2) := by decide +kernel
theorem dX7_writeName_56 : decode cX7_writeName 56 = .ok (.idiv, 1) := by decide +kernel
theorem dX7_writeName_57 : decode cX7_writeName 57 = .ok (.istore 4, 2) := by decide +kernel
theorem dX7_writeName_59 : decode cX7_writeName 59 = .ok (.goto (-30), 3) := by decide +kernel
theorem dX7_writeName_62 : decode cX7_writeName 62 = .ok (.return_, 1) := by decide +kernel
theorem dX7_writeIf_0 : decode cX7_writeIf 0 = .ok (.iload_n 1, 1) := by decide +kernel
theorem dX7_writeIf_1 : decode cX7_writeIf 1 = .ok (.ifCond .eq 8, 3) := by decide +kernel
theorem dX7_writeIf_4 : decode cX7_writeIf 4 = .ok (.aload_n 0, 1) := by decide +kernel
theorem dX7_writeIf_5 : decode cX7_writeIf 5 = .ok (.iload_n 2, 1) := by decide +kernel
theorem dX7_writeIf_6 : decode cX7_writeIf 6 = .ok (.invokevirtual 427, 3) := by decide +kernel
theorem dX7_writeIf_9 : decode cX7_writeIf 9 = .ok (.return_, 1) := by decide +kernel
theorem dX7_writeRooms_0 : decode cX7_writeRooms 0 = .ok (.aload_n 0, 1) := by decide +kernel
theorem dX7_writeRooms_1 : decode cX7_writeRooms 1 = .ok (.iconst 0, 1) := by decide +kernel
theorem dX7_writeRooms_2 : decode cX7_writeRooms 2 = .ok (.putfield 3, 3) := by decide +kernel
theorem dX7_writeRooms_5 : decode cX7_writeRooms 5 = .ok (.aload_n 0, 1) := by decide +kernel
theorem dX7_writeRooms_6 : decode cX7_writeRooms 6 = .ok (.iconst 0, 1) := by decide +kernel
theorem dX7_writeRooms_7 : decode cX7_writeRooms 7 = .ok (.putfield 424, 3) := by decide +kernel
theorem dX7_writeRooms_10 : decode cX7_writeRooms 10 = .ok (.iconst 0, 1) := by decide +kernel
theorem dX7_writeRooms_11 : decode cX7_writeRooms 11 = .ok (.istore_n 1, 1) := by decide +kernel
theorem dX7_writeRooms_12 : decode cX7_writeRooms 12 = .ok (.iload_n 1, 1) := by decide +kernel
theorem dX7_writeRooms_13 : decode cX7_writeRooms 13 = .ok (.aload_n 0, 1) := by decide +kernel
theorem dX7_writeRooms_14 : decode cX7_writeRooms 14 = .ok (.invokevirtual 56, 3) := by decide +kernel
theorem dX7_writeRooms_17 : decode cX7_writeRooms 17 = .ok (.if_icmp .ge 139, 3) := by decide +kernel
theorem dX7_writeRooms_20 : decode cX7_writeRooms 20 = .ok (.aload_n 0, 1) := by decide +kernel
theorem dX7_writeRooms_21 : decode cX7_writeRooms 21 = .ok (.iload_n 1, 1) := by decide +kernel
theorem dX7_writeRooms_22 : decode cX7_writeRooms 22 = .ok (.ifCond .le 7, 3) := by decide +kernel
theorem dX7_writeRooms_25 : decode cX7_writeRooms 25 = .ok (.iconst 1, 1) := by decide +kernel
theorem dX7_writeRooms_26 : decode cX7_writeRooms 26 = .ok (.goto 4, 3) := by decide +kernel
theorem dX7_writeRooms_29 : decode cX7_writeRooms 29 = .ok (.iconst 0, 1) := by decide +kernel
theorem dX7_writeRooms_30 : decode cX7_writeRooms 30 = .ok (.bipush 32, 2) := by decide +kernel
theorem dX7_writeRooms_32 : decode cX7_writeRooms 32 = .ok (.invokevirtual 430, 3) := by decide +kernel
theorem dX7_writeRooms_35 : decode cX7_writeRooms 35 = .ok (.aload_n 0, 1) := by decide +kernel
theorem dX7_writeRooms_36 : decode cX7_writeRooms 36 = .ok (.iload_n 1, 1) := by decide +kernel
theorem dX7_writeRooms_37 : decode cX7_writeRooms 37 = .ok (.invokevirtual 433, 3) := by decide +kernel
theorem dX7_writeRooms_40 : decode cX7_writeRooms 40 = .ok (.aload_n 0, 1) := by decide +kernel
theorem dX7_writeRooms_41 : decode cX7_writeRooms 41 = .ok (.bipush 58, 2) := by decide +kernel
theorem dX7_writeRooms_43 : decode cX7_writeRooms 43 = .ok (.invokevirtual 427, 3) := by decide +kernel
theorem dX7_writeRooms_46 : decode cX7_writeRooms 46 = .ok (.aload_n 0, 1) := by decide +kernel
theorem dX7_writeRooms_47 : decode cX7_writeRooms 47 = .ok (.aload_n 0, 1) := by decide +kernel
theorem dX7_writeRooms_48 : decode cX7_writeRooms 48 = .ok (.iload_n 1, 1) := by decide +kernel
theorem dX7_writeRooms_49 : decode cX7_writeRooms 49 = .ok (.iconst 0, 1) := by decide +kernel
theorem dX7_writeRooms_50 : decode cX7_writeRooms 50 = .ok (.invokevirtual 68, 3) := by decide +kernel
theorem dX7_writeRooms_53 : decode cX7_writeRooms 53 = .ok (.invokevirtual 436, 3) := by decide +kernel
theorem dX7_writeRooms_56 : decode cX7_writeRooms 56 = .ok (.aload_n 0, 1) := by decide +kernel
theorem dX7_writeRooms_57 : decode cX7_writeRooms 57 = .ok (.bipush 62, 2) := by decide +kernel
theorem dX7_writeRooms_59 : decode cX7_writeRooms 59 = .ok (.invokevirtual 427, 3) := by decide +kernel
theorem dX7_writeRooms_62 : decode cX7_writeRooms 62 = .ok (.aload_n 0, 1) := by decide +kernel
theorem dX7_writeRooms_63 : decode cX7_writeRooms 63 = .ok (.aload_n 0, 1) := by decide +kernel
theorem dX7_writeRooms_64 : decode cX7_writeRooms 64 = .ok (.iload_n 1, 1) := by decide +kernel
theorem dX7_writeRooms_65 : decode cX7_writeRooms 65 = .ok (.invokevirtual 78, 3) := by decide +kernel
theorem dX7_writeRooms_68 : decode cX7_writeRooms 68 = .ok (.invokevirtual 436, 3) := by decide +kernel
theorem dX7_writeRooms_71 : decode cX7_writeRooms 71 = .ok (.aload_n 0, 1) := by decide +kernel
theorem dX7_writeRooms_72 : decode cX7_writeRooms 72 = .ok (.bipush 47, 2) := by decide +kernel
theorem dX7_writeRooms_74 : decode cX7_writeRooms 74 = .ok (.invokevirtual 427, 3) := by decide +kernel
theorem dX7_writeRooms_77 : decode cX7_writeRooms 77 = .ok (.aload_n 0, 1) := by decide +kernel
theorem dX7_writeRooms_78 : decode cX7_writeRooms 78 = .ok (.aload_n 0, 1) := by decide +kernel
theorem dX7_writeRooms_79 : decode cX7_writeRooms 79 = .ok (.iload_n 1, 1) := by decide +kernel
theorem dX7_writeRooms_80 : decode cX7_writeRooms 80 = .ok (.iconst 1, 1) := by decide +kernel
theorem dX7_writeRooms_81 : decode cX7_writeRooms 81 = .ok (.invokevirtual 68, 3) := by decide +kernel
theorem dX7_writeRooms_84 : decode cX7_writeRooms 84 = .ok (.invokevirtual 436, 3) := by decide +kernel
theorem dX7_writeRooms_87 : decode cX7_writeRooms 87 = .ok (.aload_n 0, 1) := by decide +kernel
theorem dX7_writeRooms_88 : decode cX7_writeRooms 88 = .ok (.aload_n 0, 1) := by decide +kernel
theorem dX7_writeRooms_89 : decode cX7_writeRooms 89 = .ok (.iload_n 1, 1) := by decide +kernel
theorem dX7_writeRooms_90 : decode cX7_writeRooms 90 = .ok (.iconst 5, 1) := by decide +kernel
theorem dX7_writeRooms_91 : decode cX7_writeRooms 91 = .ok (.invokevirtual 68, 3) := by decide +kernel
theorem dX7_writeRooms_94 : decode cX7_writeRooms 94 = .ok (.iconst 1, 1) := by decide +kernel
theorem dX7_writeRooms_95 : decode cX7_writeRooms 95 = .ok (.if_icmp .ne 7, 3) := by decide +kernel
theorem dX7_writeRooms_98 : decode cX7_writeRooms 98 = .ok (.iconst 1, 1) := by decide +kernel
theorem dX7_writeRooms_99 : decode cX7_writeRooms 99 = .ok (.goto 4, 3) := by decide +kernel
theorem dX7_writeRooms_102 : decode cX7_writeRooms 102 = .ok (.iconst 0, 1) := by decide +kernel
theorem dX7_writeRooms_103 : decode cX7_writeRooms 103 = .ok (.bipush 119, 2) := by decide +kernel
theorem dX7_writeRooms_105 : decode cX7_writeRooms 105 = .ok (.invokevirtual 430, 3) := by decide +kernel
theorem dX7_writeRooms_108 : decode cX7_writeRooms 108 = .ok (.aload_n 0, 1) := by decide +kernel
theorem dX7_writeRooms_109 : decode cX7_writeRooms 109 = .ok (.aload_n 0, 1) := by decide +kernel
theorem dX7_writeRooms_110 : decode cX7_writeRooms 110 = .ok (.iload_n 1, 1) := by decide +kernel
theorem dX7_writeRooms_111 : decode cX7_writeRooms 111 = .ok (.bipush 6, 2) := by decide +kernel
theorem dX7_writeRooms_113 : decode cX7_writeRooms 113 = .ok (.invokevirtual 68, 3) := by decide +kernel
theorem dX7_writeRooms_116 : decode cX7_writeRooms 116 = .ok (.ifCond .ne 7, 3) := by decide +kernel
theorem dX7_writeRooms_119 : decode cX7_writeRooms 119 = .ok (.iconst 1, 1) := by decide +kernel
theorem dX7_writeRooms_120 : decode cX7_writeRooms 120 = .ok (.goto 4, 3) := by decide +kernel
theorem dX7_writeRooms_123 : decode cX7_writeRooms 123 = .ok (.iconst 0, 1) := by decide +kernel
theorem dX7_writeRooms_124 : decode cX7_writeRooms 124 = .ok (.bipush 110, 2) := by decide +kernel
theorem dX7_writeRooms_126 : decode cX7_writeRooms 126 = .ok (.invokevirtual 430, 3) := by decide +kernel
theorem dX7_writeRooms_129 : decode cX7_writeRooms 129 = .ok (.aload_n 0, 1) := by decide +kernel
theorem dX7_writeRooms_130 : decode cX7_writeRooms 130 = .ok (.aload_n 0, 1) := by decide +kernel
theorem dX7_writeRooms_131 : decode cX7_writeRooms 131 = .ok (.iload_n 1, 1) := by decide +kernel
theorem dX7_writeRooms_132 : decode cX7_writeRooms 132 = .ok (.bipush 7, 2) := by decide +kernel
theorem dX7_writeRooms_134 : decode cX7_writeRooms 134 = .ok (.invokevirtual 68, 3) := by decide +kernel
theorem dX7_writeRooms_137 : decode cX7_writeRooms 137 = .ok (.ifCond .le 7, 3) := by decide +kernel
theorem dX7_writeRooms_140 : decode cX7_writeRooms 140 = .ok (.iconst 1, 1) := by decide +kernel
theorem dX7_writeRooms_141 : decode cX7_writeRooms 141 = .ok (.goto 4, 3) := by decide +kernel
theorem dX7_writeRooms_144 : decode cX7_writeRooms 144 = .ok (.iconst 0, 1) := by decide +kernel
theorem dX7_writeRooms_145 : decode cX7_writeRooms 145 = .ok (.bipush 109, 2) := by decide +kernel
theorem dX7_writeRooms_147 : decode cX7_writeRooms 147 = .ok (.invokevirtual 430, 3) := by decide +kernel
theorem dX7_writeRooms_150 : decode cX7_writeRooms 150 = .ok (.iinc 1 1, 3) := by decide +kernel
theorem dX7_writeRooms_153 : decode cX7_writeRooms 153 = .ok (.goto (-141), 3) := by decide +kernel
theorem dX7_writeRooms_156 : decode cX7_writeRooms 156 = .ok (.aload_n 0, 1) := by decide +kernel
theorem dX7_writeRooms_157 : decode cX7_writeRooms 157 = .ok (.getfield 424, 3) := by decide +kernel
theorem dX7_writeRooms_160 : decode cX7_writeRooms 160 = .ok (.ireturn, 1) := by decide +kernel
theorem dX7_writeProgram_0 : decode cX7_writeProgram 0 = .ok (.aload_n 0, 1) := by decide +kernel
theorem dX7_writeProgram_1 : decode cX7_writeProgram 1 = .ok (.aload_n 0, 1) := by decide +kernel
theorem dX7_writeProgram_2 : decode cX7_writeProgram 2 = .ok (.iload_n 1, 1) := by decide +kernel
theorem dX7_writeProgram_3 : decode cX7_writeProgram 3 = .ok (.invokevirtual 347, 3) := by decide +kernel
theorem dX7_writeProgram_6 : decode cX7_writeProgram 6 = .ok (.invokevirtual 155, 3) := by decide +kernel
theorem dX7_writeProgram_9 : decode cX7_writeProgram 9 = .ok (.ifCond .ne 5, 3) := by decide +kernel
theorem dX7_writeProgram_12 : decode cX7_writeProgram 12 = .ok (.iconst 0, 1) := by decide +kernel
theorem dX7_writeProgram_13 : decode cX7_writeProgram 13 = .ok (.ireturn, 1) := by decide +kernel
theorem dX7_writeProgram_14 : decode cX7_writeProgram 14 = .ok (.aload_n 0, 1) := by decide +kernel
theorem dX7_writeProgram_15 : decode cX7_writeProgram 15 = .ok (.iconst 0, 1) := by decide +kernel
theorem dX7_writeProgram_16 : decode cX7_writeProgram 16 = .ok (.putfield 424, 3) := by decide +kernel
theorem dX7_writeProgram_19 : decode cX7_writeProgram 19 = .ok (.iconst 0, 1) := by decide +kernel
theorem dX7_writeProgram_20 : decode cX7_writeProgram 20 = .ok (.istore_n 2, 1) := by decide +kernel
theorem dX7_writeProgram_21 : decode cX7_writeProgram 21 = .ok (.iload_n 2, 1) := by decide +kernel
theorem dX7_writeProgram_22 : decode cX7_writeProgram 22 = .ok (.bipush 48, 2) := by decide +kernel
theorem dX7_writeProgram_24 : decode cX7_writeProgram 24 = .ok (.if_icmp .ge 57, 3) := by decide +kernel
theorem dX7_writeProgram_27 : decode cX7_writeProgram 27 = .ok (.aload_n 0, 1) := by decide +kernel
theorem dX7_writeProgram_28 : decode cX7_writeProgram 28 = .ok (.iload_n 1, 1) := by decide +kernel
theorem dX7_writeProgram_29 : decode cX7_writeProgram 29 = .ok (.iload_n 2, 1) := by decide +kernel
theorem dX7_writeProgram_30 : decode cX7_writeProgram 30 = .ok (.invokevirtual 72, 3) := by decide +kernel
theorem dX7_writeProgram_33 : decode cX7_writeProgram 33 = .ok (.ifCond .le 42, 3) := by decide +kernel
theorem dX7_writeProgram_36 : decode cX7_writeProgram 36 = .ok (.aload_n 0, 1) := by decide +kernel
theorem dX7_writeProgram_37 : decode cX7_writeProgram 37 = .ok (.aload_n 0, 1) := by decide +kernel
theorem dX7_writeProgram_38 : decode cX7_writeProgram 38 = .ok (.getfield 424, 3) := by decide +kernel
theorem dX7_writeProgram_41 : decode cX7_writeProgram 41 = .ok (.ifCond .le 7, 3) := by decide +kernel
theorem dX7_writeProgram_44 : decode cX7_writeProgram 44 = .ok (.iconst 1, 1) := by decide +kernel
theorem dX7_writeProgram_45 : decode cX7_writeProgram 45 = .ok (.goto 4, 3) := by decide +kernel
theorem dX7_writeProgram_48 : decode cX7_writeProgram 48 = .ok (.iconst 0, 1) := by decide +kernel
theorem dX7_writeProgram_49 : decode cX7_writeProgram 49 = .ok (.bipush 44, 2) := by decide +kernel
theorem dX7_writeProgram_51 : decode cX7_writeProgram 51 = .ok (.invokevirtual 430, 3) := by decide +kernel
theorem dX7_writeProgram_54 : decode cX7_writeProgram 54 = .ok (.aload_n 0, 1) := by decide +kernel
theorem dX7_writeProgram_55 : decode cX7_writeProgram 55 = .ok (.iload_n 2, 1) := by decide +kernel
theorem dX7_writeProgram_56 : decode cX7_writeProgram 56 = .ok (.invokevirtual 436, 3) := by decide +kernel
theorem dX7_writeProgram_59 : decode cX7_writeProgram 59 = .ok (.aload_n 0, 1) := by decide +kernel
theorem dX7_writeProgram_60 : decode cX7_writeProgram 60 = .ok (.bipush 58, 2) := by decide +kernel
theorem dX7_writeProgram_62 : decode cX7_writeProgram 62 = .ok (.invokevirtual 427, 3) := by decide +kernel
theorem dX7_writeProgram_65 : decode cX7_writeProgram 65 = .ok (.aload_n 0, 1) := by decide +kernel
theorem dX7_writeProgram_66 : decode cX7_writeProgram 66 = .ok (.aload_n 0, 1) := by decide +kernel
theorem dX7_writeProgram_67 : decode cX7_writeProgram 67 = .ok (.iload_n 1, 1) := by decide +kernel
theorem dX7_writeProgram_68 : decode cX7_writeProgram 68 = .ok (.iload_n 2, 1) := by decide +kernel
theorem dX7_writeProgram_69 : decode cX7_writeProgram 69 = .ok (.invokevirtual 72, 3) := by decide +kernel
theorem dX7_writeProgram_72 : decode cX7_writeProgram 72 = .ok (.invokevirtual 436, 3) := by decide +kernel
theorem dX7_writeProgram_75 : decode cX7_writeProgram 75 = .ok (.iinc 2 1, 3) := by decide +kernel
theorem dX7_writeProgram_78 : decode cX7_writeProgram 78 = .ok (.goto (-57), 3) := by decide +kernel
theorem dX7_writeProgram_81 : decode cX7_writeProgram 81 = .ok (.aload_n 0, 1) := by decide +kernel
theorem dX7_writeProgram_82 : decode cX7_writeProgram 82 = .ok (.getfield 424, 3) := by decide +kernel
theorem dX7_writeProgram_85 : decode cX7_writeProgram 85 = .ok (.ireturn, 1) := by decide +kernel
theorem dX7_writePlans_0 : decode cX7_writePlans 0 = .ok (.aload_n 0, 1) := by decide +kernel
theorem dX7_writePlans_1 : decode cX7_writePlans 1 = .ok (.iconst 0, 1) := by decide +kernel
theorem dX7_writePlans_2 : decode cX7_writePlans 2 = .ok (.putfield 3, 3) := by decide +kernel
theorem dX7_writePlans_5 : decode cX7_writePlans 5 = .ok (.aload_n 0, 1) := by decide +kernel
theorem dX7_writePlans_6 : decode cX7_writePlans 6 = .ok (.iconst 0, 1) := by decide +kernel
theorem dX7_writePlans_7 : decode cX7_writePlans 7 = .ok (.putfield 424, 3) := by decide +kernel
theorem dX7_writePlans_10 : decode cX7_writePlans 10 = .ok (.iconst 0, 1) := by decide +kernel
theorem dX7_writePlans_11 : decode cX7_writePlans 11 = .ok (.istore_n 1, 1) := by decide +kernel
theorem dX7_writePlans_12 : decode cX7_writePlans 12 = .ok (.iload_n 1, 1) := by decide +kernel
theorem dX7_writePlans_13 : decode cX7_writePlans 13 = .ok (.aload_n 0, 1) := by decide +kernel
theorem dX7_writePlans_14 : decode cX7_writePlans 14 = .ok (.getfield 17, 3) := by decide +kernel
theorem dX7_writePlans_17 : decode cX7_writePlans 17 = .ok (.iconst 3, 1) := by decide +kernel
theorem dX7_writePlans_18 : decode cX7_writePlans 18 = .ok (.iaload, 1) := by decide +kernel
theorem dX7_writePlans_19 : decode cX7_writePlans 19 = .ok (.if_icmp .ge 66, 3) := by decide +kernel
theorem dX7_writePlans_22 : decode cX7_writePlans 22 = .ok (.aload_n 0, 1) := by decide +kernel
theorem dX7_writePlans_23 : decode cX7_writePlans 23 = .ok (.iload_n 1, 1) := by decide +kernel
theorem dX7_writePlans_24 : decode cX7_writePlans 24 = .ok (.ifCond .le 7, 3) := by decide +kernel
theorem dX7_writePlans_27 : decode cX7_writePlans 27 = .ok (.iconst 1, 1) := by decide +kernel
theorem dX7_writePlans_28 : decode cX7_writePlans 28 = .ok (.goto 4, 3) := by decide +kernel
theorem dX7_writePlans_31 : decode cX7_writePlans 31 = .ok (.iconst 0, 1) := by decide +kernel
theorem dX7_writePlans_32 : decode cX7_writePlans 32 = .ok (.bipush 32, 2) := by decide +kernel
theorem dX7_writePlans_34 : decode cX7_writePlans 34 = .ok (.invokevirtual 430, 3) := by decide +kernel
theorem dX7_writePlans_37 : decode cX7_writePlans 37 = .ok (.aload_n 0, 1) := by decide +kernel
theorem dX7_writePlans_38 : decode cX7_writePlans 38 = .ok (.aload_n 0, 1) := by decide +kernel
theorem dX7_writePlans_39 : decode cX7_writePlans 39 = .ok (.iload_n 1, 1) := by decide +kernel
theorem dX7_writePlans_40 : decode cX7_writePlans 40 = .ok (.iconst 0, 1) := by decide +kernel
theorem dX7_writePlans_41 : decode cX7_writePlans 41 = .ok (.invokevirtual 132, 3) := by decide +kernel
theorem dX7_writePlans_44 : decode cX7_writePlans 44 = .ok (.invokevirtual 436, 3) := by decide +kernel
theorem dX7_writePlans_47 : decode cX7_writePlans 47 = .ok (.aload_n 0, 1) := by decide +kernel
theorem dX7_writePlans_48 : decode cX7_writePlans 48 = .ok (.bipush 64, 2) := by decide +kernel
theorem dX7_writePlans_50 : decode cX7_writePlans 50 = .ok (.invokevirtual 427, 3) := by decide +kernel
theorem dX7_writePlans_53 : decode cX7_writePlans 53 = .ok (.aload_n 0, 1) := by decide +kernel
theorem dX7_writePlans_54 : decode cX7_writePlans 54 = .ok (.aload_n 0, 1) := by decide +kernel
theorem dX7_writePlans_55 : decode cX7_writePlans 55 = .ok (.iload_n 1, 1) := by decide +kernel
theorem dX7_writePlans_56 : decode cX7_writePlans 56 = .ok (.iconst 1, 1) := by decide +kernel
theorem dX7_writePlans_57 : decode cX7_writePlans 57 = .ok (.invokevirtual 132, 3) := by decide +kernel
theorem dX7_writePlans_60 : decode cX7_writePlans 60 = .ok (.invokevirtual 436, 3) := by decide +kernel
theorem dX7_writePlans_63 : decode cX7_writePlans 63 = .ok (.aload_n 0, 1) := by decide +kernel
theorem dX7_writePlans_64 : decode cX7_writePlans 64 = .ok (.ldc_w 439, 3) := by decide +kernel
theorem dX7_writePlans_67 : decode cX7_writePlans 67 = .ok (.aload_n 0, 1) := by decide +kernel
theorem dX7_writePlans_68 : decode cX7_writePlans 68 = .ok (.iload_n 1, 1) := by decide +kernel
theorem dX7_writePlans_69 : decode cX7_writePlans 69 = .ok (.iconst 2, 1) := by decide +kernel
theorem dX7_writePlans_70 : decode cX7_writePlans 70 = .ok (.invokevirtual 132, 3) := by decide +kernel
theorem dX7_writePlans_73 : decode cX7_writePlans 73 = .ok (.invokevirtual 204, 3) := by decide +kernel
theorem dX7_writePlans_76 : decode cX7_writePlans 76 = .ok (.invokevirtual 427, 3) := by decide +kernel
theorem dX7_writePlans_79 : decode cX7_writePlans 79 = .ok (.iinc 1 1, 3) := by decide +kernel
theorem dX7_writePlans_82 : decode cX7_writePlans 82 = .ok (.goto (-70), 3) := by decide +kernel
theorem dX7_writePlans_85 : decode cX7_writePlans 85 = .ok (.aload_n 0, 1) := by decide +kernel
theorem dX7_writePlans_86 : decode cX7_writePlans 86 = .ok (.getfield 424, 3) := by decide +kernel
theorem dX7_writePlans_89 : decode cX7_writePlans 89 = .ok (.ireturn, 1) := by decide +kernel
theorem dX7_outputByte_0 : decode cX7_outputByte 0 = .ok (.aload_n 0, 1) := by decide +kernel
theorem dX7_outputByte_1 : decode cX7_outputByte 1 = .ok (.iload_n 1, 1) := by decide +kernel
theorem dX7_outputByte_2 : decode cX7_outputByte 2 = .ok (.i2l, 1) := by decide +kernel
theorem dX7_outputByte_3 : decode cX7_outputByte 3 = .ok (.lconst 0, 1) := by decide +kernel
theorem dX7_outputByte_4 : decode cX7_outputByte 4 = .ok (.aload_n 0, 1) := by decide +kernel
theorem dX7_outputByte_5 : decode cX7_outputByte 5 = .ok (.getfield 424, 3) := by decide +kernel
theorem dX7_outputByte_8 : decode cX7_outputByte 8 = .ok (.iconst 1, 1) := by decide +kernel
theorem dX7_outputByte_9 : decode cX7_outputByte 9 = .ok (.isub, 1) := by decide +kernel
theorem dX7_outputByte_10 : decode cX7_outputByte 10 = .ok (.i2l, 1) := by decide +kernel
theorem dX7_outputByte_11 : decode cX7_outputByte 11 = .ok (.invokestatic 60, 3) := by decide +kernel
theorem dX7_outputByte_14 : decode cX7_outputByte 14 = .ok (.invokevirtual 155, 3) := by decide +kernel
theorem dX7_outputByte_17 : decode cX7_outputByte 17 = .ok (.ifCond .eq 12, 3) := by decide +kernel
theorem dX7_outputByte_20 : decode cX7_outputByte 20 = .ok (.aload_n 0, 1) := by decide +kernel
theorem dX7_outputByte_21 : decode cX7_outputByte 21 = .ok (.getfield 50, 3) := by decide +kernel
theorem dX7_outputByte_24 : decode cX7_outputByte 24 = .ok (.iload_n 1, 1) := by decide +kernel
theorem dX7_outputByte_25 : decode cX7_outputByte 25 = .ok (.baload, 1) := by decide +kernel
theorem dX7_outputByte_26 : decode cX7_outputByte 26 = .ok (.goto 4, 3) := by decide +kernel
theorem dX7_outputByte_29 : decode cX7_outputByte 29 = .ok (.iconst 0, 1) := by decide +kernel
theorem dX7_outputByte_30 : decode cX7_outputByte 30 = .ok (.ireturn, 1) := by decide +kernel
