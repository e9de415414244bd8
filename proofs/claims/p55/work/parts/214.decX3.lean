/-! decode rows, out of the printed names -/
theorem dX3_init_0 : decode cX3_init 0 = .ok (.aload_n 0, 1) := by decide +kernel
theorem dX3_init_1 : decode cX3_init 1 = .ok (.invokespecial 3, 3) := by decide +kernel
theorem dX3_init_4 : decode cX3_init 4 = .ok (.aload_n 0, 1) := by decide +kernel
theorem dX3_init_5 : decode cX3_init 5 = .ok (.sipush 500, 3) := by decide +kernel
theorem dX3_init_8 : decode cX3_init 8 = .ok (.newarray .byte, 2) := by decide +kernel
theorem dX3_init_10 : decode cX3_init 10 = .ok (.putfield 9, 3) := by decide +kernel
theorem dX3_init_13 : decode cX3_init 13 = .ok (.aload_n 0, 1) := by decide +kernel
theorem dX3_init_14 : decode cX3_init 14 = .ok (.new 15, 3) := by decide +kernel
theorem dX3_init_17 : decode cX3_init 17 = .ok (.dup, 1) := by decide +kernel
theorem dX3_init_18 : decode cX3_init 18 = .ok (.invokespecial 17, 3) := by decide +kernel
theorem dX3_init_21 : decode cX3_init 21 = .ok (.putfield 18, 3) := by decide +kernel
theorem dX3_init_24 : decode cX3_init 24 = .ok (.aload_n 0, 1) := by decide +kernel
theorem dX3_init_25 : decode cX3_init 25 = .ok (.new 22, 3) := by decide +kernel
theorem dX3_init_28 : decode cX3_init 28 = .ok (.dup, 1) := by decide +kernel
theorem dX3_init_29 : decode cX3_init 29 = .ok (.invokespecial 24, 3) := by decide +kernel
theorem dX3_init_32 : decode cX3_init 32 = .ok (.putfield 25, 3) := by decide +kernel
theorem dX3_init_35 : decode cX3_init 35 = .ok (.return_, 1) := by decide +kernel
theorem dX3_putFourBytes_0 : decode cX3_putFourBytes 0 = .ok (.bipush 24, 2) := by decide +kernel
theorem dX3_putFourBytes_2 : decode cX3_putFourBytes 2 = .ok (.istore_n 2, 1) := by decide +kernel
theorem dX3_putFourBytes_3 : decode cX3_putFourBytes 3 = .ok (.iload_n 2, 1) := by decide +kernel
theorem dX3_putFourBytes_4 : decode cX3_putFourBytes 4 = .ok (.ifCond .lt 44, 3) := by decide +kernel
theorem dX3_putFourBytes_7 : decode cX3_putFourBytes 7 = .ok (.aload_n 0, 1) := by decide +kernel
theorem dX3_putFourBytes_8 : decode cX3_putFourBytes 8 = .ok (.getfield 29, 3) := by decide +kernel
theorem dX3_putFourBytes_11 : decode cX3_putFourBytes 11 = .ok (.aload_n 0, 1) := by decide +kernel
theorem dX3_putFourBytes_12 : decode cX3_putFourBytes 12 = .ok (.getfield 9, 3) := by decide +kernel
theorem dX3_putFourBytes_15 : decode cX3_putFourBytes 15 = .ok (.arraylength, 1) := by decide +kernel
theorem dX3_putFourBytes_16 : decode cX3_putFourBytes 16 = .ok (.if_icmp .ge 32, 3) := by decide +kernel
theorem dX3_putFourBytes_19 : decode cX3_putFourBytes 19 = .ok (.aload_n 0, 1) := by decide +kernel
theorem dX3_putFourBytes_20 : decode cX3_putFourBytes 20 = .ok (.getfield 9, 3) := by decide +kernel
theorem dX3_putFourBytes_23 : decode cX3_putFourBytes 23 = .ok (.aload_n 0, 1) := by decide +kernel
theorem dX3_putFourBytes_24 : decode cX3_putFourBytes 24 = .ok (.getfield 29, 3) := by decide +kernel
theorem dX3_putFourBytes_27 : decode cX3_putFourBytes 27 = .ok (.iload_n 1, 1) := by decide +kernel
theorem dX3_putFourBytes_28 : decode cX3_putFourBytes 28 = .ok (.iload_n 2, 1) := by decide +kernel
theorem dX3_putFourBytes_29 : decode cX3_putFourBytes 29 = .ok (.ishr, 1) := by decide +kernel
theorem dX3_putFourBytes_30 : decode cX3_putFourBytes 30 = .ok (.i2b, 1) := by decide +kernel
theorem dX3_putFourBytes_31 : decode cX3_putFourBytes 31 = .ok (.bastore, 1) := by decide +kernel
theorem dX3_putFourBytes_32 : decode cX3_putFourBytes 32 = .ok (.aload_n 0, 1) := by decide +kernel
theorem dX3_putFourBytes_33 : decode cX3_putFourBytes 33 = .ok (.dup, 1) := by decide +kernel
theorem dX3_putFourBytes_34 : decode cX3_putFourBytes 34 = .ok (.getfield 29, 3) := by decide +kernel
theorem dX3_putFourBytes_37 : decode cX3_putFourBytes 37 = .ok (.iconst 1, 1) := by decide +kernel
theorem dX3_putFourBytes_38 : decode cX3_putFourBytes 38 = .ok (.iadd, 1) := by decide +kernel
theorem dX3_putFourBytes_39 : decode cX3_putFourBytes 39 = .ok (.putfield 29, 3) := by decide +kernel
theorem dX3_putFourBytes_42 : decode cX3_putFourBytes 42 = .ok (.iinc 2 (-8), 3) := by decide +kernel
theorem dX3_putFourBytes_45 : decode cX3_putFourBytes 45 = .ok (.goto (-42), 3) := by decide +kernel
theorem dX3_putFourBytes_48 : decode cX3_putFourBytes 48 = .ok (.return_, 1) := by decide +kernel
theorem dX3_parse_0 : decode cX3_parse 0 = .ok (.aload_n 0, 1) := by decide +kernel
theorem dX3_parse_1 : decode cX3_parse 1 = .ok (.getfield 25, 3) := by decide +kernel
theorem dX3_parse_4 : decode cX3_parse 4 = .ok (.aload_n 0, 1) := by decide +kernel
theorem dX3_parse_5 : decode cX3_parse 5 = .ok (.getfield 9, 3) := by decide +kernel
theorem dX3_parse_8 : decode cX3_parse 8 = .ok (.aload_n 0, 1) := by decide +kernel
theorem dX3_parse_9 : decode cX3_parse 9 = .ok (.getfield 29, 3) := by decide +kernel
theorem dX3_parse_12 : decode cX3_parse 12 = .ok (.invokevirtual 33, 3) := by decide +kernel
theorem dX3_parse_15 : decode cX3_parse 15 = .ok (.aload_n 0, 1) := by decide +kernel
theorem dX3_parse_16 : decode cX3_parse 16 = .ok (.iconst 0, 1) := by decide +kernel
theorem dX3_parse_17 : decode cX3_parse 17 = .ok (.putfield 37, 3) := by decide +kernel
theorem dX3_parse_20 : decode cX3_parse 20 = .ok (.aload_n 0, 1) := by decide +kernel
theorem dX3_parse_21 : decode cX3_parse 21 = .ok (.iconst 0, 1) := by decide +kernel
theorem dX3_parse_22 : decode cX3_parse 22 = .ok (.putfield 40, 3) := by decide +kernel
theorem dX3_parse_25 : decode cX3_parse 25 = .ok (.aload_n 0, 1) := by decide +kernel
theorem dX3_parse_26 : decode cX3_parse 26 = .ok (.iconst 0, 1) := by decide +kernel
theorem dX3_parse_27 : decode cX3_parse 27 = .ok (.putfield 43, 3) := by decide +kernel
theorem dX3_parse_30 : decode cX3_parse 30 = .ok (.aload_n 0, 1) := by decide +kernel
theorem dX3_parse_31 : decode cX3_parse 31 = .ok (.iconst (-1), 1) := by decide +kernel
theorem dX3_parse_32 : decode cX3_parse 32 = .ok (.putfield 46, 3) := by decide +kernel
theorem dX3_parse_35 : decode cX3_parse 35 = .ok (.aload_n 0, 1) := by decide +kernel
theorem dX3_parse_36 : decode cX3_parse 36 = .ok (.getfield 18, 3) := by decide +kernel
theorem dX3_parse_39 : decode cX3_parse 39 = .ok (.invokevirtual 49, 3) := by decide +kernel
theorem dX3_parse_42 : decode cX3_parse 42 = .ok (.aload_n 0, 1) := by decide +kernel
theorem dX3_parse_43 : decode cX3_parse 43 = .ok (.invokevirtual 52, 3) := by decide +kernel
theorem dX3_parse_46 : decode cX3_parse 46 = .ok (.ifCond .eq 9, 3) := by decide +kernel
theorem dX3_parse_49 : decode cX3_parse 49 = .ok (.aload_n 0, 1) := by decide +kernel
theorem dX3_parse_50 : decode cX3_parse 50 = .ok (.iconst 1, 1) := by decide +kernel
theorem dX3_parse_51 : decode cX3_parse 51 = .ok (.invokevirtual 56, 3) := by decide +kernel
theorem dX3_parse_54 : decode cX3_parse 54 = .ok (.ireturn, 1) := by decide +kernel
theorem dX3_parse_55 : decode cX3_parse 55 = .ok (.iconst 0, 1) := by decide +kernel
theorem dX3_parse_56 : decode cX3_parse 56 = .ok (.istore_n 1, 1) := by decide +kernel
theorem dX3_parse_57 : decode cX3_parse 57 = .ok (.iload_n 1, 1) := by decide +kernel
theorem dX3_parse_58 : decode cX3_parse 58 = .ok (.aload_n 0, 1) := by decide +kernel
theorem dX3_parse_59 : decode cX3_parse 59 = .ok (.getfield 25, 3) := by decide +kernel
theorem dX3_parse_62 : decode cX3_parse 62 = .ok (.getfield 60, 3) := by decide +kernel
theorem dX3_parse_65 : decode cX3_parse 65 = .ok (.if_icmp .ge 34, 3) := by decide +kernel
theorem dX3_parse_68 : decode cX3_parse 68 = .ok (.aload_n 0, 1) := by decide +kernel
theorem dX3_parse_69 : decode cX3_parse 69 = .ok (.invokevirtual 52, 3) := by decide +kernel
theorem dX3_parse_72 : decode cX3_parse 72 = .ok (.ifCond .ne 27, 3) := by decide +kernel
theorem dX3_parse_75 : decode cX3_parse 75 = .ok (.aload_n 0, 1) := by decide +kernel
theorem dX3_parse_76 : decode cX3_parse 76 = .ok (.invokevirtual 63, 3) := by decide +kernel
theorem dX3_parse_79 : decode cX3_parse 79 = .ok (.ifCond .eq 12, 3) := by decide +kernel
theorem dX3_parse_82 : decode cX3_parse 82 = .ok (.aload_n 0, 1) := by decide +kernel
theorem dX3_parse_83 : decode cX3_parse 83 = .ok (.bipush 59, 2) := by decide +kernel
theorem dX3_parse_85 : decode cX3_parse 85 = .ok (.invokevirtual 66, 3) := by decide +kernel
theorem dX3_parse_88 : decode cX3_parse 88 = .ok (.ifCond .ne 5, 3) := by decide +kernel
theorem dX3_parse_91 : decode cX3_parse 91 = .ok (.iconst 0, 1) := by decide +kernel
theorem dX3_parse_92 : decode cX3_parse 92 = .ok (.ireturn, 1) := by decide +kernel
theorem dX3_parse_93 : decode cX3_parse 93 = .ok (.iinc 1 1, 3) := by decide +kernel
theorem dX3_parse_96 : decode cX3_parse 96 = .ok (.goto (-39), 3) := by decide +kernel
theorem dX3_parse_99 : decode cX3_parse 99 = .ok (.iconst 1, 1) := by decide +kernel
theorem dX3_parse_100 : decode cX3_parse 100 = .ok (.ireturn, 1) := by decide +kernel
theorem dX3_fail_0 : decode cX3_fail 0 = .ok (.aload_n 0, 1) := by decide +kernel
theorem dX3_fail_1 : decode cX3_fail 1 = .ok (.iload_n 1, 1) := by decide +kernel
theorem dX3_fail_2 : decode cX3_fail 2 = .ok (.putfield 43, 3) := by decide +kernel
theorem dX3_fail_5 : decode cX3_fail 5 = .ok (.aload_n 0, 1) := by decide +kernel
theorem dX3_fail_6 : decode cX3_fail 6 = .ok (.aload_n 0, 1) := by decide +kernel
theorem dX3_fail_7 : decode cX3_fail 7 = .ok (.getfield 25, 3) := by decide +kernel
theorem dX3_fail_10 : decode cX3_fail 10 = .ok (.getfield 70, 3) := by decide +kernel
theorem dX3_fail_13 : decode cX3_fail 13 = .ok (.aload_n 0, 1) := by decide +kernel
theorem dX3_fail_14 : decode cX3_fail 14 = .ok (.getfield 37, 3) := by decide +kernel
theorem dX3_fail_17 : decode cX3_fail 17 = .ok (.iaload, 1) := by decide +kernel
theorem dX3_fail_18 : decode cX3_fail 18 = .ok (.putfield 46, 3) := by decide +kernel
theorem dX3_fail_21 : decode cX3_fail 21 = .ok (.iconst 0, 1) := by decide +kernel
theorem dX3_fail_22 : decode cX3_fail 22 = .ok (.ireturn, 1) := by decide +kernel
theorem dX3_pass_0 : decode cX3_pass 0 = .ok (.aload_n 0, 1) := by decide +kernel
theorem dX3_pass_1 : decode cX3_pass 1 = .ok (.getfield 37, 3) := by decide +kernel
theorem dX3_pass_4 : decode cX3_pass 4 = .ok (.aload_n 0, 1) := by decide +kernel
theorem dX3_pass_5 : decode cX3_pass 5 = .ok (.getfield 25, 3) := by decide +kernel
theorem dX3_pass_8 : decode cX3_pass 8 = .ok (.getfield 60, 3) := by decide +kernel
theorem dX3_pass_11 : decode cX3_pass 11 = .ok (.iconst 1, 1) := by decide +kernel
theorem dX3_pass_12 : decode cX3_pass 12 = .ok (.isub, 1) := by decide +kernel
theorem dX3_pass_13 : decode cX3_pass 13 = .ok (.if_icmp .ge 13, 3) := by decide +kernel
theorem dX3_pass_16 : decode cX3_pass 16 = .ok (.aload_n 0, 1) := by decide +kernel
theorem dX3_pass_17 : decode cX3_pass 17 = .ok (.dup, 1) := by decide +kernel
theorem dX3_pass_18 : decode cX3_pass 18 = .ok (.getfield 37, 3) := by decide +kernel
theorem dX3_pass_21 : decode cX3_pass 21 = .ok (.iconst 1, 1) := by decide +kernel
theorem dX3_pass_22 : decode cX3_pass 22 = .ok (.iadd, 1) := by decide +kernel
theorem dX3_pass_23 : decode cX3_pass 23 = .ok (.putfield 37, 3) := by decide +kernel
theorem dX3_pass_26 : decode cX3_pass 26 = .ok (.return_, 1) := by decide +kernel
theorem dX3_isAtEnd_0 : decode cX3_isAtEnd 0 = .ok (.aload_n 0, 1) := by decide +kernel
theorem dX3_isAtEnd_1 : decode cX3_isAtEnd 1 = .ok (.getfield 25, 3) := by decide +kernel
theorem dX3_isAtEnd_4 : decode cX3_isAtEnd 4 = .ok (.getfield 74, 3) := by decide +kernel
theorem dX3_isAtEnd_7 : decode cX3_isAtEnd 7 = .ok (.aload_n 0, 1) := by decide +kernel
theorem dX3_isAtEnd_8 : decode cX3_isAtEnd 8 = .ok (.getfield 37, 3) := by decide +kernel
theorem dX3_isAtEnd_11 : decode cX3_isAtEnd 11 = .ok (.iaload, 1) := by decide +kernel
theorem dX3_isAtEnd_12 : decode cX3_isAtEnd 12 = .ok (.iconst 4, 1) := by decide +kernel
theorem dX3_isAtEnd_13 : decode cX3_isAtEnd 13 = .ok (.if_icmp .ne 7, 3) := by decide +kernel
theorem dX3_isAtEnd_16 : decode cX3_isAtEnd 16 = .ok (.iconst 1, 1) := by decide +kernel
theorem dX3_isAtEnd_17 : decode cX3_isAtEnd 17 = .ok (.goto 4, 3) := by decide +kernel
theorem dX3_isAtEnd_20 : decode cX3_isAtEnd 20 = .ok (.iconst 0, 1) := by decide +kernel
theorem dX3_isAtEnd_21 : decode cX3_isAtEnd 21 = .ok (.ireturn, 1) := by decide +kernel
theorem dX3_isSymbol_0 : decode cX3_isSymbol 0 = .ok (.aload_n 0, 1) := by decide +kernel
theorem dX3_isSymbol_1 : decode cX3_isSymbol 1 = .ok (.getfield 25, 3) := by decide +kernel
theorem dX3_isSymbol_4 : decode cX3_isSymbol 4 = .ok (.getfield 74, 3) := by decide +kernel
theorem dX3_isSymbol_7 : decode cX3_isSymbol 7 = .ok (.aload_n 0, 1) := by decide +kernel
theorem dX3_isSymbol_8 : decode cX3_isSymbol 8 = .ok (.getfield 37, 3) := by decide +kernel
theorem dX3_isSymbol_11 : decode cX3_isSymbol 11 = .ok (.iaload, 1) := by decide +kernel
theorem dX3_isSymbol_12 : decode cX3_isSymbol 12 = .ok (.iconst 3, 1) := by decide +kernel
theorem dX3_isSymbol_13 : decode cX3_isSymbol 13 = .ok (.if_icmp .ne 23, 3) := by decide +kernel
theorem dX3_isSymbol_16 : decode cX3_isSymbol 16 = .ok (.aload_n 0, 1) := by decide +kernel
theorem dX3_isSymbol_17 : decode cX3_isSymbol 17 = .ok (.getfield 25, 3) := by decide +kernel
theorem dX3_isSymbol_20 : decode cX3_isSymbol 20 = .ok (.getfield 77, 3) := by decide +kernel
theorem dX3_isSymbol_23 : decode cX3_isSymbol 23 = .ok (.aload_n 0, 1) := by decide +kernel
theorem dX3_isSymbol_24 : decode cX3_isSymbol 24 = .ok (.getfield 37, 3) := by decide +kernel
theorem dX3_isSymbol_27 : decode cX3_isSymbol 27 = .ok (.iaload, 1) := by decide +kernel
theorem dX3_isSymbol_28 : decode cX3_isSymbol 28 = .ok (.iload_n 1, 1) := by decide +kernel
theorem dX3_isSymbol_29 : decode cX3_isSymbol 29 = .ok (.if_icmp .ne 7, 3) := by decide +kernel
theorem dX3_isSymbol_32 : decode cX3_isSymbol 32 = .ok (.iconst 1, 1) := by decide +kernel
theorem dX3_isSymbol_33 : decode cX3_isSymbol 33 = .ok (.goto 4, 3) := by decide +kernel
theorem dX3_isSymbol_36 : decode cX3_isSymbol 36 = .ok (.iconst 0, 1) := by decide +kernel
theorem dX3_isSymbol_37 : decode cX3_isSymbol 37 = .ok (.ireturn, 1) := by decide +kernel
theorem dX3_isKeyword_0 : decode cX3_isKeyword 0 = .ok (.aload_n 0, 1) := by decide +kernel
theorem dX3_isKeyword_1 : decode cX3_isKeyword 1 = .ok (.getfield 25, 3) := by decide +kernel
theorem dX3_isKeyword_4 : decode cX3_isKeyword 4 = .ok (.getfield 80, 3) := by decide +kernel
theorem dX3_isKeyword_7 : decode cX3_isKeyword 7 = .ok (.aload_n 0, 1) := by decide +kernel
theorem dX3_isKeyword_8 : decode cX3_isKeyword 8 = .ok (.getfield 37, 3) := by decide +kernel
theorem dX3_isKeyword_11 : decode cX3_isKeyword 11 = .ok (.aaload, 1) := by decide +kernel
theorem dX3_isKeyword_12 : decode cX3_isKeyword 12 = .ok (.aload_n 1, 1) := by decide +kernel
theorem dX3_isKeyword_13 : decode cX3_isKeyword 13 = .ok (.if_acmp .ne 7, 3) := by decide +kernel
theorem dX3_isKeyword_16 : decode cX3_isKeyword 16 = .ok (.iconst 1, 1) := by decide +kernel
theorem dX3_isKeyword_17 : decode cX3_isKeyword 17 = .ok (.goto 4, 3) := by decide +kernel
theorem dX3_isKeyword_20 : decode cX3_isKeyword 20 = .ok (.iconst 0, 1) := by decide +kernel
theorem dX3_isKeyword_21 : decode cX3_isKeyword 21 = .ok (.ireturn, 1) := by decide +kernel
theorem dX3_isName_0 : decode cX3_isName 0 = .ok (.aload_n 0, 1) := by decide +kernel
theorem dX3_isName_1 : decode cX3_isName 1 = .ok (.getfield 25, 3) := by decide +kernel
theorem dX3_isName_4 : decode cX3_isName 4 = .ok (.getfield 74, 3) := by decide +kernel
theorem dX3_isName_7 : decode cX3_isName 7 = .ok (.aload_n 0, 1) := by decide +kernel
theorem dX3_isName_8 : decode cX3_isName 8 = .ok (.getfield 37, 3) := by decide +kernel
theorem dX3_isName_11 : decode cX3_isName 11 = .ok (.iaload, 1) := by decide +kernel
theorem dX3_isName_12 : decode cX3_isName 12 = .ok (.iconst 1, 1) := by decide +kernel
theorem dX3_isName_13 : decode cX3_isName 13 = .ok (.if_icmp .ne 39, 3) := by decide +kernel
theorem dX3_isName_16 : decode cX3_isName 16 = .ok (.aload_n 0, 1) := by decide +kernel
theorem dX3_isName_17 : decode cX3_isName 17 = .ok (.getfield 25, 3) := by decide +kernel
theorem dX3_isName_20 : decode cX3_isName 20 = .ok (.getfield 84, 3) := by decide +kernel
theorem dX3_isName_23 : decode cX3_isName 23 = .ok (.aload_n 0, 1) := by decide +kernel
theorem dX3_isName_24 : decode cX3_isName 24 = .ok (.getfield 37, 3) := by decide +kernel
theorem dX3_isName_27 : decode cX3_isName 27 = .ok (.iaload, 1) := by decide +kernel
theorem dX3_isName_28 : decode cX3_isName 28 = .ok (.bipush 6, 2) := by decide +kernel
theorem dX3_isName_30 : decode cX3_isName 30 = .ok (.if_icmp .gt 22, 3) := by decide +kernel
theorem dX3_isName_33 : decode cX3_isName 33 = .ok (.aload_n 0, 1) := by decide +kernel
theorem dX3_isName_34 : decode cX3_isName 34 = .ok (.getfield 25, 3) := by decide +kernel
theorem dX3_isName_37 : decode cX3_isName 37 = .ok (.getfield 80, 3) := by decide +kernel
theorem dX3_isName_40 : decode cX3_isName 40 = .ok (.aload_n 0, 1) := by decide +kernel
theorem dX3_isName_41 : decode cX3_isName 41 = .ok (.getfield 37, 3) := by decide +kernel
theorem dX3_isName_44 : decode cX3_isName 44 = .ok (.aaload, 1) := by decide +kernel
theorem dX3_isName_45 : decode cX3_isName 45 = .ok (.ifnonnull 7, 3) := by decide +kernel
theorem dX3_isName_48 : decode cX3_isName 48 = .ok (.iconst 1, 1) := by decide +kernel
theorem dX3_isName_49 : decode cX3_isName 49 = .ok (.goto 4, 3) := by decide +kernel
theorem dX3_isName_52 : decode cX3_isName 52 = .ok (.iconst 0, 1) := by decide +kernel
theorem dX3_isName_53 : decode cX3_isName 53 = .ok (.ireturn, 1) := by decide +kernel
theorem dX3_takeSymbol_0 : decode cX3_takeSymbol 0 = .ok (.aload_n 0, 1) := by decide +kernel
theorem dX3_takeSymbol_1 : decode cX3_takeSymbol 1 = .ok (.iload_n 1, 1) := by decide +kernel
theorem dX3_takeSymbol_2 : decode cX3_takeSymbol 2 = .ok (.invokevirtual 87, 3) := by decide +kernel
theorem dX3_takeSymbol_5 : decode cX3_takeSymbol 5 = .ok (.ifCond .ne 9, 3) := by decide +kernel
theorem dX3_takeSymbol_8 : decode cX3_takeSymbol 8 = .ok (.aload_n 0, 1) := by decide +kernel
theorem dX3_takeSymbol_9 : decode cX3_takeSymbol 9 = .ok (.iconst 1, 1) := by decide +kernel
theorem dX3_takeSymbol_10 : decode cX3_takeSymbol 10 = .ok (.invokevirtual 56, 3) := by decide +kernel
theorem dX3_takeSymbol_13 : decode cX3_takeSymbol 13 = .ok (.ireturn, 1) := by decide +kernel
theorem dX3_takeSymbol_14 : decode cX3_takeSymbol 14 = .ok (.aload_n 0, 1) := by decide +kernel
theorem dX3_takeSymbol_15 : decode cX3_takeSymbol 15 = .ok (.invokevirtual 90, 3) := by decide +kernel
theorem dX3_takeSymbol_18 : decode cX3_takeSymbol 18 = .ok (.iconst 1, 1) := by decide +kernel
theorem dX3_takeSymbol_19 : decode cX3_takeSymbol 19 = .ok (.ireturn, 1) := by decide +kernel
theorem dX3_takeKeyword_0 : decode cX3_takeKeyword 0 = .ok (.aload_n 0, 1) := by decide +kernel
theorem dX3_takeKeyword_1 : decode cX3_takeKeyword 1 = .ok (.aload_n 1, 1) := by decide +kernel
theorem dX3_takeKeyword_2 : decode cX3_takeKeyword 2 = .ok (.invokevirtual 93, 3) := by decide +kernel
theorem dX3_takeKeyword_5 : decode cX3_takeKeyword 5 = .ok (.ifCond .ne 9, 3) := by decide +kernel
theorem dX3_takeKeyword_8 : decode cX3_takeKeyword 8 = .ok (.aload_n 0, 1) := by decide +kernel
theorem dX3_takeKeyword_9 : decode cX3_takeKeyword 9 = .ok (.iconst 1, 1) := by decide +kernel
theorem dX3_takeKeyword_10 : decode cX3_takeKeyword 10 = .ok (.invokevirtual 56, 3) := by decide +kernel
theorem dX3_takeKeyword_13 : decode cX3_takeKeyword 13 = .ok (.ireturn, 1) := by decide +kernel
theorem dX3_takeKeyword_14 : decode cX3_takeKeyword 14 = .ok (.aload_n 0, 1) := by decide +kernel
theorem dX3_takeKeyword_15 : decode cX3_takeKeyword 15 = .ok (.invokevirtual 90, 3) := by decide +kernel
theorem dX3_takeKeyword_18 : decode cX3_takeKeyword 18 = .ok (.iconst 1, 1) := by decide +kernel
theorem dX3_takeKeyword_19 : decode cX3_takeKeyword 19 = .ok (.ireturn, 1) := by decide +kernel
theorem dX3_takeNumber_0 : decode cX3_takeNumber 0 = .ok (.aload_n 0, 1) := by decide +kernel
theorem dX3_takeNumber_1 : decode cX3_takeNumber 1 = .ok (.getfield 25, 3) := by decide +kernel
theorem dX3_takeNumber_4 : decode cX3_takeNumber 4 = .ok (.getfield 74, 3) := by decide +kernel
theorem dX3_takeNumber_7 : decode cX3_takeNumber 7 = .ok (.aload_n 0, 1) := by decide +kernel
theorem dX3_takeNumber_8 : decode cX3_takeNumber 8 = .ok (.getfield 37, 3) := by decide +kernel
theorem dX3_takeNumber_11 : decode cX3_takeNumber 11 = .ok (.iaload, 1) := by decide +kernel
theorem dX3_takeNumber_12 : decode cX3_takeNumber 12 = .ok (.iconst 2, 1) := by decide +kernel
theorem dX3_takeNumber_13 : decode cX3_takeNumber 13 = .ok (.if_icmp .eq 9, 3) := by decide +kernel
theorem dX3_takeNumber_16 : decode cX3_takeNumber 16 = .ok (.aload_n 0, 1) := by decide +kernel
theorem dX3_takeNumber_17 : decode cX3_takeNumber 17 = .ok (.iconst 1, 1) := by decide +kernel
theorem dX3_takeNumber_18 : decode cX3_takeNumber 18 = .ok (.invokevirtual 56, 3) := by decide +kernel
theorem dX3_takeNumber_21 : decode cX3_takeNumber 21 = .ok (.ireturn, 1) := by decide +kernel
theorem dX3_takeNumber_22 : decode cX3_takeNumber 22 = .ok (.aload_n 0, 1) := by decide +kernel
theorem dX3_takeNumber_23 : decode cX3_takeNumber 23 = .ok (.getfield 25, 3) := by decide +kernel
theorem dX3_takeNumber_26 : decode cX3_takeNumber 26 = .ok (.getfield 77, 3) := by decide +kernel
theorem dX3_takeNumber_29 : decode cX3_takeNumber 29 = .ok (.aload_n 0, 1) := by decide +kernel
theorem dX3_takeNumber_30 : decode cX3_takeNumber 30 = .ok (.getfield 37, 3) := by decide +kernel
theorem dX3_takeNumber_33 : decode cX3_takeNumber 33 = .ok (.iaload, 1) := by decide +kernel
theorem dX3_takeNumber_34 : decode cX3_takeNumber 34 = .ok (.istore_n 3, 1) := by decide +kernel
theorem dX3_takeNumber_35 : decode cX3_takeNumber 35 = .ok (.iload_n 3, 1) := by decide +kernel
theorem dX3_takeNumber_36 : decode cX3_takeNumber 36 = .ok (.iload_n 1, 1) := by decide +kernel
theorem dX3_takeNumber_37 : decode cX3_takeNumber 37 = .ok (.if_icmp .lt 8, 3) := by decide +kernel
theorem dX3_takeNumber_40 : decode cX3_takeNumber 40 = .ok (.iload_n 3, 1) := by decide +kernel
theorem dX3_takeNumber_41 : decode cX3_takeNumber 41 = .ok (.iload_n 2, 1) := by decide +kernel
theorem dX3_takeNumber_42 : decode cX3_takeNumber 42 = .ok (.if_icmp .le 9, 3) := by decide +kernel
theorem dX3_takeNumber_45 : decode cX3_takeNumber 45 = .ok (.aload_n 0, 1) := by decide +kernel
theorem dX3_takeNumber_46 : decode cX3_takeNumber 46 = .ok (.iconst 2, 1) := by decide +kernel
theorem dX3_takeNumber_47 : decode cX3_takeNumber 47 = .ok (.invokevirtual 56, 3) := by decide +kernel
theorem dX3_takeNumber_50 : decode cX3_takeNumber 50 = .ok (.ireturn, 1) := by decide +kernel
theorem dX3_takeNumber_51 : decode cX3_takeNumber 51 = .ok (.aload_n 0, 1) := by decide +kernel
theorem dX3_takeNumber_52 : decode cX3_takeNumber 52 = .ok (.iload_n 3, 1) := by decide +kernel
theorem dX3_takeNumber_53 : decode cX3_takeNumber 53 = .ok (.putfield 97, 3) := by decide +kernel
theorem dX3_takeNumber_56 : decode cX3_takeNumber 56 = .ok (.aload_n 0, 1) := by decide +kernel
theorem dX3_takeNumber_57 : decode cX3_takeNumber 57 = .ok (.invokevirtual 90, 3) := by decide +kernel
theorem dX3_takeNumber_60 : decode cX3_takeNumber 60 = .ok (.iconst 1, 1) := by decide +kernel
theorem dX3_takeNumber_61 : decode cX3_takeNumber 61 = .ok (.ireturn, 1) := by decide +kernel
theorem dX3_takeOption_0 : decode cX3_takeOption 0 = .ok (.aload_n 0, 1) := by decide +kernel
theorem dX3_takeOption_1 : decode cX3_takeOption 1 = .ok (.aload_n 1, 1) := by decide +kernel
theorem dX3_takeOption_2 : decode cX3_takeOption 2 = .ok (.invokevirtual 93, 3) := by decide +kernel
theorem dX3_takeOption_5 : decode cX3_takeOption 5 = .ok (.ifCond .eq 14, 3) := by decide +kernel
theorem dX3_takeOption_8 : decode cX3_takeOption 8 = .ok (.aload_n 0, 1) := by decide +kernel
theorem dX3_takeOption_9 : decode cX3_takeOption 9 = .ok (.invokevirtual 90, 3) := by decide +kernel
theorem dX3_takeOption_12 : decode cX3_takeOption 12 = .ok (.aload_n 0, 1) := by decide +kernel
theorem dX3_takeOption_13 : decode cX3_takeOption 13 = .ok (.iload_n 2, 1) := by decide +kernel
theorem dX3_takeOption_14 : decode cX3_takeOption 14 = .ok (.iload_n 3, 1) := by decide +kernel
theorem dX3_takeOption_15 : decode cX3_takeOption 15 = .ok (.invokevirtual 100, 3) := by decide +kernel
theorem dX3_takeOption_18 : decode cX3_takeOption 18 = .ok (.ireturn, 1) := by decide +kernel
theorem dX3_takeOption_19 : decode cX3_takeOption 19 = .ok (.aload_n 0, 1) := by decide +kernel
theorem dX3_takeOption_20 : decode cX3_takeOption 20 = .ok (.iload 4, 2) := by decide +kernel
theorem dX3_takeOption_22 : decode cX3_takeOption 22 = .ok (.putfield 97, 3) := by decide +kernel
theorem dX3_takeOption_25 : decode cX3_takeOption 25 = .ok (.iconst 1, 1) := by decide +kernel
theorem dX3_takeOption_26 : decode cX3_takeOption 26 = .ok (.ireturn, 1) := by decide +kernel
theorem dX3_takeStatement_0 : decode cX3_takeStatement 0 = .ok (.aload_n 0, 1) := by decide +kernel
theorem dX3_takeStatement_1 : decode cX3_takeStatement 1 = .ok (.getfield 25, 3) := by decide +kernel
theorem dX3_takeStatement_4 : decode cX3_takeStatement 4 = .ok (.getfield 80, 3) := by decide +kernel
theorem dX3_takeStatement_7 : decode cX3_takeStatement 7 = .ok (.aload_n 0, 1) := by decide +kernel
theorem dX3_takeStatement_8 : decode cX3_takeStatement 8 = .ok (.getfield 37, 3) := by decide +kernel
theorem dX3_takeStatement_11 : decode cX3_takeStatement 11 = .ok (.aaload, 1) := by decide +kernel
theorem dX3_takeStatement_12 : decode cX3_takeStatement 12 = .ok (.astore_n 1, 1) := by decide +kernel
theorem dX3_takeStatement_13 : decode cX3_takeStatement 13 = .ok (.aload_n 1, 1) := by decide +kernel
theorem dX3_takeStatement_14 : decode cX3_takeStatement 14 = .ok (.ifnonnull 9, 3) := by decide +kernel
theorem dX3_takeStatement_17 : decode cX3_takeStatement 17 = .ok (.aload_n 0, 1) := by decide +kernel
theorem dX3_takeStatement_18 : decode cX3_takeStatement 18 = .ok (.iconst 1, 1) := by decide +kernel
theorem dX3_takeStatement_19 : decode cX3_takeStatement 19 = .ok (.invokevirtual 56, 3) := by decide +kernel
theorem dX3_takeStatement_22 : decode cX3_takeStatement 22 = .ok (.ireturn, 1) := by decide +kernel
theorem dX3_takeStatement_23 : decode cX3_takeStatement 23 = .ok (.getstatic 104, 3) := by decide +kernel
theorem dX3_takeStatement_26 : decode cX3_takeStatement 26 = .ok (.aload_n 1, 1) := by decide +kernel
theorem dX3_takeStatement_27 : decode cX3_takeStatement 27 = .ok (.invokevirtual 109, 3) := by decide +kernel
theorem dX3_takeStatement_30 : decode cX3_takeStatement 30 = .ok (.iaload, 1) := by decide +kernel
theorem dX3_takeStatement_31 : decode cX3_takeStatement 31 = .ok (.tableswitch 199 1 8 #[45, 66, 87, 108, 130, 152, 189, 194], 45) := by decide +kernel
theorem dX3_takeStatement_76 : decode cX3_takeStatement 76 = .ok (.aload_n 0, 1) := by decide +kernel
theorem dX3_takeStatement_77 : decode cX3_takeStatement 77 = .ok (.iconst 1, 1) := by decide +kernel
theorem dX3_takeStatement_78 : decode cX3_takeStatement 78 = .ok (.invokevirtual 115, 3) := by decide +kernel
theorem dX3_takeStatement_81 : decode cX3_takeStatement 81 = .ok (.ifCond .eq 14, 3) := by decide +kernel
theorem dX3_takeStatement_84 : decode cX3_takeStatement 84 = .ok (.aload_n 0, 1) := by decide +kernel
theorem dX3_takeStatement_85 : decode cX3_takeStatement 85 = .ok (.invokevirtual 118, 3) := by decide +kernel
theorem dX3_takeStatement_88 : decode cX3_takeStatement 88 = .ok (.ifCond .eq 7, 3) := by decide +kernel
theorem dX3_takeStatement_91 : decode cX3_takeStatement 91 = .ok (.iconst 1, 1) := by decide +kernel
theorem dX3_takeStatement_92 : decode cX3_takeStatement 92 = .ok (.goto 4, 3) := by decide +kernel
theorem dX3_takeStatement_95 : decode cX3_takeStatement 95 = .ok (.iconst 0, 1) := by decide +kernel
theorem dX3_takeStatement_96 : decode cX3_takeStatement 96 = .ok (.ireturn, 1) := by decide +kernel
theorem dX3_takeStatement_97 : decode cX3_takeStatement 97 = .ok (.aload_n 0, 1) := by decide +kernel
theorem dX3_takeStatement_98 : decode cX3_takeStatement 98 = .ok (.iconst 2, 1) := by decide +kernel
theorem dX3_takeStatement_99 : decode cX3_takeStatement 99 = .ok (.invokevirtual 115, 3) := by decide +kernel
theorem dX3_takeStatement_102 : decode cX3_takeStatement 102 = .ok (.ifCond .eq 14, 3) := by decide +kernel
theorem dX3_takeStatement_105 : decode cX3_takeStatement 105 = .ok (.aload_n 0, 1) := by decide +kernel
theorem dX3_takeStatement_106 : decode cX3_takeStatement 106 = .ok (.invokevirtual 121, 3) := by decide +kernel
theorem dX3_takeStatement_109 : decode cX3_takeStatement 109 = .ok (.ifCond .eq 7, 3) := by decide +kernel
theorem dX3_takeStatement_112 : decode cX3_takeStatement 112 = .ok (.iconst 1, 1) := by decide +kernel
theorem dX3_takeStatement_113 : decode cX3_takeStatement 113 = .ok (.goto 4, 3) := by decide +kernel
theorem dX3_takeStatement_116 : decode cX3_takeStatement 116 = .ok (.iconst 0, 1) := by decide +kernel
theorem dX3_takeStatement_117 : decode cX3_takeStatement 117 = .ok (.ireturn, 1) := by decide +kernel
theorem dX3_takeStatement_118 : decode cX3_takeStatement 118 = .ok (.aload_n 0, 1) := by decide +kernel
theorem dX3_takeStatement_119 : decode cX3_takeStatement 119 = .ok (.iconst 4, 1) := by decide +kernel
theorem dX3_takeStatement_120 : decode cX3_takeStatement 120 = .ok (.invokevirtual 115, 3) := by decide +kernel
theorem dX3_takeStatement_123 : decode cX3_takeStatement 123 = .ok (.ifCond .eq 14, 3) := by decide +kernel
theorem dX3_takeStatement_126 : decode cX3_takeStatement 126 = .ok (.aload_n 0, 1) := by decide +kernel
theorem dX3_takeStatement_127 : decode cX3_takeStatement 127 = .ok (.invokevirtual 124, 3) := by decide +kernel
theorem dX3_takeStatement_130 : decode cX3_takeStatement 130 = .ok (.ifCond .eq 7, 3) := by decide +kernel
theorem dX3_takeStatement_133 : decode cX3_takeStatement 133 = .ok (.iconst 1, 1) := by decide +kernel
theorem dX3_takeStatement_134 : decode cX3_takeStatement 134 = .ok (.goto 4, 3) := by decide +kernel
theorem dX3_takeStatement_137 : decode cX3_takeStatement 137 = .ok (.iconst 0, 1) := by decide +kernel
theorem dX3_takeStatement_138 : decode cX3_takeStatement 138 = .ok (.ireturn, 1) := by decide +kernel
theorem dX3_takeStatement_139 : decode cX3_takeStatement 139 = .ok (.aload_n 0, 1) := by decide +kernel
theorem dX3_takeStatement_140 : decode cX3_takeStatement 140 = .ok (.bipush 8, 2) := by decide +kernel
theorem dX3_takeStatement_142 : decode cX3_takeStatement 142 = .ok (.invokevirtual 115, 3) := by decide +kernel
theorem dX3_takeStatement_145 : decode cX3_takeStatement 145 = .ok (.ifCond .eq 14, 3) := by decide +kernel
theorem dX3_takeStatement_148 : decode cX3_takeStatement 148 = .ok (.aload_n 0, 1) := by decide +kernel
theorem dX3_takeStatement_149 : decode cX3_takeStatement 149 = .ok (.invokevirtual 127, 3) := by decide +kernel
theorem dX3_takeStatement_152 : decode cX3_takeStatement 152 = .ok (.ifCond .eq 7, 3) := by decide +kernel
theorem dX3_takeStatement_155 : decode cX3_takeStatement 155 = .ok (.iconst 1, 1) := by decide +kernel
theorem dX3_takeStatement_156 : decode cX3_takeStatement 156 = .ok (.goto 4, 3) := by decide +kernel
theorem dX3_takeStatement_159 : decode cX3_takeStatement 159 = .ok (.iconst 0, 1) := by decide +kernel
theorem dX3_takeStatement_160 : decode cX3_takeStatement 160 = .ok (.ireturn, 1) := by decide +kernel
theorem dX3_takeStatement_161 : decode cX3_takeStatement 161 = .ok (.aload_n 0, 1) := by decide +kernel
theorem dX3_takeStatement_162 : decode cX3_takeStatement 162 = .ok (.bipush 16, 2) := by decide +kernel
theorem dX3_takeStatement_164 : decode cX3_takeStatement 164 = .ok (.invokevirtual 115, 3) := by decide +kernel
theorem dX3_takeStatement_167 : decode cX3_takeStatement 167 = .ok (.ifCond .eq 14, 3) := by decide +kernel
theorem dX3_takeStatement_170 : decode cX3_takeStatement 170 = .ok (.aload_n 0, 1) := by decide +kernel
theorem dX3_takeStatement_171 : decode cX3_takeStatement 171 = .ok (.invokevirtual 130, 3) := by decide +kernel
theorem dX3_takeStatement_174 : decode cX3_takeStatement 174 = .ok (.ifCond .eq 7, 3) := by decide +kernel
theorem dX3_takeStatement_177 : decode cX3_takeStatement 177 = .ok (.iconst 1, 1) := by decide +kernel
theorem dX3_takeStatement_178 : decode cX3_takeStatement 178 = .ok (.goto 4, 3) := by decide +kernel
theorem dX3_takeStatement_181 : decode cX3_takeStatement 181 = .ok (.iconst 0, 1) := by decide +kernel
theorem dX3_takeStatement_182 : decode cX3_takeStatement 182 = .ok (.ireturn, 1) := by decide +kernel
theorem dX3_takeStatement_183 : decode cX3_takeStatement 183 = .ok (.aload_n 0, 1) := by decide +kernel
theorem dX3_takeStatement_184 : decode cX3_takeStatement 184 = .ok (.invokevirtual 133, 3) := by decide +kernel
theorem dX3_takeStatement_187 : decode cX3_takeStatement 187 = .ok (.ifCond .eq 31, 3) := by decide +kernel
theorem dX3_takeStatement_190 : decode cX3_takeStatement 190 = .ok (.aload_n 0, 1) := by decide +kernel
theorem dX3_takeStatement_191 : decode cX3_takeStatement 191 = .ok (.aload_n 0, 1) := by decide +kernel
theorem dX3_takeStatement_192 : decode cX3_takeStatement 192 = .ok (.getfield 18, 3) := by decide +kernel
theorem dX3_takeStatement_195 : decode cX3_takeStatement 195 = .ok (.getfield 136, 3) := by decide +kernel
theorem dX3_takeStatement_198 : decode cX3_takeStatement 198 = .ok (.aload_n 0, 1) := by decide +kernel
theorem dX3_takeStatement_199 : decode cX3_takeStatement 199 = .ok (.getfield 18, 3) := by decide +kernel
theorem dX3_takeStatement_202 : decode cX3_takeStatement 202 = .ok (.getfield 140, 3) := by decide +kernel
theorem dX3_takeStatement_205 : decode cX3_takeStatement 205 = .ok (.iconst 1, 1) := by decide +kernel
theorem dX3_takeStatement_206 : decode cX3_takeStatement 206 = .ok (.isub, 1) := by decide +kernel
theorem dX3_takeStatement_207 : decode cX3_takeStatement 207 = .ok (.aaload, 1) := by decide +kernel
theorem dX3_takeStatement_208 : decode cX3_takeStatement 208 = .ok (.invokevirtual 143, 3) := by decide +kernel
theorem dX3_takeStatement_211 : decode cX3_takeStatement 211 = .ok (.ifCond .eq 7, 3) := by decide +kernel
theorem dX3_takeStatement_214 : decode cX3_takeStatement 214 = .ok (.iconst 1, 1) := by decide +kernel
theorem dX3_takeStatement_215 : decode cX3_takeStatement 215 = .ok (.goto 4, 3) := by decide +kernel
theorem dX3_takeStatement_218 : decode cX3_takeStatement 218 = .ok (.iconst 0, 1) := by decide +kernel
theorem dX3_takeStatement_219 : decode cX3_takeStatement 219 = .ok (.ireturn, 1) := by decide +kernel
theorem dX3_takeStatement_220 : decode cX3_takeStatement 220 = .ok (.aload_n 0, 1) := by decide +kernel
theorem dX3_takeStatement_221 : decode cX3_takeStatement 221 = .ok (.invokevirtual 147, 3) := by decide +kernel
theorem dX3_takeStatement_224 : decode cX3_takeStatement 224 = .ok (.ireturn, 1) := by decide +kernel
theorem dX3_takeStatement_225 : decode cX3_takeStatement 225 = .ok (.aload_n 0, 1) := by decide +kernel
theorem dX3_takeStatement_226 : decode cX3_takeStatement 226 = .ok (.invokevirtual 150, 3) := by decide +kernel
theorem dX3_takeStatement_229 : decode cX3_takeStatement 229 = .ok (.ireturn, 1) := by decide +kernel
theorem dX3_takeStatement_230 : decode cX3_takeStatement 230 = .ok (.aload_n 0, 1) := by decide +kernel
theorem dX3_takeStatement_231 : decode cX3_takeStatement 231 = .ok (.iconst 1, 1) := by decide +kernel
theorem dX3_takeStatement_232 : decode cX3_takeStatement 232 = .ok (.invokevirtual 56, 3) := by decide +kernel
theorem dX3_takeStatement_235 : decode cX3_takeStatement 235 = .ok (.ireturn, 1) := by decide +kernel
theorem dX3_takeOnce_0 : decode cX3_takeOnce 0 = .ok (.aload_n 0, 1) := by decide +kernel
theorem dX3_takeOnce_1 : decode cX3_takeOnce 1 = .ok (.getfield 40, 3) := by decide +kernel
theorem dX3_takeOnce_4 : decode cX3_takeOnce 4 = .ok (.iload_n 1, 1) := by decide +kernel
theorem dX3_takeOnce_5 : decode cX3_takeOnce 5 = .ok (.iand, 1) := by decide +kernel
theorem dX3_takeOnce_6 : decode cX3_takeOnce 6 = .ok (.ifCond .eq 9, 3) := by decide +kernel
theorem dX3_takeOnce_9 : decode cX3_takeOnce 9 = .ok (.aload_n 0, 1) := by decide +kernel
theorem dX3_takeOnce_10 : decode cX3_takeOnce 10 = .ok (.iconst 3, 1) := by decide +kernel
theorem dX3_takeOnce_11 : decode cX3_takeOnce 11 = .ok (.invokevirtual 56, 3) := by decide +kernel
theorem dX3_takeOnce_14 : decode cX3_takeOnce 14 = .ok (.ireturn, 1) := by decide +kernel
theorem dX3_takeOnce_15 : decode cX3_takeOnce 15 = .ok (.aload_n 0, 1) := by decide +kernel
theorem dX3_takeOnce_16 : decode cX3_takeOnce 16 = .ok (.dup, 1) := by decide +kernel
theorem dX3_takeOnce_17 : decode cX3_takeOnce 17 = .ok (.getfield 40, 3) := by decide +kernel
theorem dX3_takeOnce_20 : decode cX3_takeOnce 20 = .ok (.iload_n 1, 1) := by decide +kernel
theorem dX3_takeOnce_21 : decode cX3_takeOnce 21 = .ok (.ior, 1) := by decide +kernel
theorem dX3_takeOnce_22 : decode cX3_takeOnce 22 = .ok (.putfield 40, 3) := by decide +kernel
theorem dX3_takeOnce_25 : decode cX3_takeOnce 25 = .ok (.aload_n 0, 1) := by decide +kernel
theorem dX3_takeOnce_26 : decode cX3_takeOnce 26 = .ok (.invokevirtual 90, 3) := by decide +kernel
theorem dX3_takeOnce_29 : decode cX3_takeOnce 29 = .ok (.iconst 1, 1) := by decide +kernel
theorem dX3_takeOnce_30 : decode cX3_takeOnce 30 = .ok (.ireturn, 1) := by decide +kernel
theorem dX3_takeOutside_0 : decode cX3_takeOutside 0 = .ok (.aload_n 0, 1) := by decide +kernel
theorem dX3_takeOutside_1 : decode cX3_takeOutside 1 = .ok (.bipush 45, 2) := by decide +kernel
theorem dX3_takeOutside_3 : decode cX3_takeOutside 3 = .ok (.invokevirtual 87, 3) := by decide +kernel
theorem dX3_takeOutside_6 : decode cX3_takeOutside 6 = .ok (.istore_n 1, 1) := by decide +kernel
theorem dX3_takeOutside_7 : decode cX3_takeOutside 7 = .ok (.iload_n 1, 1) := by decide +kernel
theorem dX3_takeOutside_8 : decode cX3_takeOutside 8 = .ok (.ifCond .eq 7, 3) := by decide +kernel
theorem dX3_takeOutside_11 : decode cX3_takeOutside 11 = .ok (.aload_n 0, 1) := by decide +kernel
theorem dX3_takeOutside_12 : decode cX3_takeOutside 12 = .ok (.invokevirtual 90, 3) := by decide +kernel
theorem dX3_takeOutside_15 : decode cX3_takeOutside 15 = .ok (.aload_n 0, 1) := by decide +kernel
theorem dX3_takeOutside_16 : decode cX3_takeOutside 16 = .ok (.iconst 0, 1) := by decide +kernel
theorem dX3_takeOutside_17 : decode cX3_takeOutside 17 = .ok (.iload_n 1, 1) := by decide +kernel
theorem dX3_takeOutside_18 : decode cX3_takeOutside 18 = .ok (.ifCond .eq 9, 3) := by decide +kernel
theorem dX3_takeOutside_21 : decode cX3_takeOutside 21 = .ok (.sipush 300, 3) := by decide +kernel
theorem dX3_takeOutside_24 : decode cX3_takeOutside 24 = .ok (.goto 6, 3) := by decide +kernel
theorem dX3_takeOutside_27 : decode cX3_takeOutside 27 = .ok (.sipush 400, 3) := by decide +kernel
theorem dX3_takeOutside_30 : decode cX3_takeOutside 30 = .ok (.invokevirtual 100, 3) := by decide +kernel
theorem dX3_takeOutside_33 : decode cX3_takeOutside 33 = .ok (.ifCond .ne 5, 3) := by decide +kernel
theorem dX3_takeOutside_36 : decode cX3_takeOutside 36 = .ok (.iconst 0, 1) := by decide +kernel
theorem dX3_takeOutside_37 : decode cX3_takeOutside 37 = .ok (.ireturn, 1) := by decide +kernel
theorem dX3_takeOutside_38 : decode cX3_takeOutside 38 = .ok (.aload_n 0, 1) := by decide +kernel
theorem dX3_takeOutside_39 : decode cX3_takeOutside 39 = .ok (.getfield 18, 3) := by decide +kernel
theorem dX3_takeOutside_42 : decode cX3_takeOutside 42 = .ok (.iload_n 1, 1) := by decide +kernel
theorem dX3_takeOutside_43 : decode cX3_takeOutside 43 = .ok (.ifCond .eq 11, 3) := by decide +kernel
theorem dX3_takeOutside_46 : decode cX3_takeOutside 46 = .ok (.aload_n 0, 1) := by decide +kernel
theorem dX3_takeOutside_47 : decode cX3_takeOutside 47 = .ok (.getfield 97, 3) := by decide +kernel
theorem dX3_takeOutside_50 : decode cX3_takeOutside 50 = .ok (.ineg, 1) := by decide +kernel
theorem dX3_takeOutside_51 : decode cX3_takeOutside 51 = .ok (.goto 7, 3) := by decide +kernel
theorem dX3_takeOutside_54 : decode cX3_takeOutside 54 = .ok (.aload_n 0, 1) := by decide +kernel
theorem dX3_takeOutside_55 : decode cX3_takeOutside 55 = .ok (.getfield 97, 3) := by decide +kernel
theorem dX3_takeOutside_58 : decode cX3_takeOutside 58 = .ok (.putfield 153, 3) := by decide +kernel
theorem dX3_takeOutside_61 : decode cX3_takeOutside 61 = .ok (.iconst 1, 1) := by decide +kernel
theorem dX3_takeOutside_62 : decode cX3_takeOutside 62 = .ok (.ireturn, 1) := by decide +kernel
theorem dX3_takeWindow_0 : decode cX3_takeWindow 0 = .ok (.aload_n 0, 1) := by decide +kernel
theorem dX3_takeWindow_1 : decode cX3_takeWindow 1 = .ok (.iconst 1, 1) := by decide +kernel
theorem dX3_takeWindow_2 : decode cX3_takeWindow 2 = .ok (.bipush 99, 2) := by decide +kernel
theorem dX3_takeWindow_4 : decode cX3_takeWindow 4 = .ok (.invokevirtual 100, 3) := by decide +kernel
theorem dX3_takeWindow_7 : decode cX3_takeWindow 7 = .ok (.ifCond .ne 5, 3) := by decide +kernel
theorem dX3_takeWindow_10 : decode cX3_takeWindow 10 = .ok (.iconst 0, 1) := by decide +kernel
theorem dX3_takeWindow_11 : decode cX3_takeWindow 11 = .ok (.ireturn, 1) := by decide +kernel
theorem dX3_takeWindow_12 : decode cX3_takeWindow 12 = .ok (.aload_n 0, 1) := by decide +kernel
theorem dX3_takeWindow_13 : decode cX3_takeWindow 13 = .ok (.getfield 18, 3) := by decide +kernel
theorem dX3_takeWindow_16 : decode cX3_takeWindow 16 = .ok (.aload_n 0, 1) := by decide +kernel
theorem dX3_takeWindow_17 : decode cX3_takeWindow 17 = .ok (.getfield 97, 3) := by decide +kernel
theorem dX3_takeWindow_20 : decode cX3_takeWindow 20 = .ok (.putfield 156, 3) := by decide +kernel
theorem dX3_takeWindow_23 : decode cX3_takeWindow 23 = .ok (.aload_n 0, 1) := by decide +kernel
theorem dX3_takeWindow_24 : decode cX3_takeWindow 24 = .ok (.getstatic 159, 3) := by decide +kernel
theorem dX3_takeWindow_27 : decode cX3_takeWindow 27 = .ok (.invokevirtual 163, 3) := by decide +kernel
theorem dX3_takeWindow_30 : decode cX3_takeWindow 30 = .ok (.ifCond .eq 13, 3) := by decide +kernel
theorem dX3_takeWindow_33 : decode cX3_takeWindow 33 = .ok (.aload_n 0, 1) := by decide +kernel
theorem dX3_takeWindow_34 : decode cX3_takeWindow 34 = .ok (.iconst 1, 1) := by decide +kernel
theorem dX3_takeWindow_35 : decode cX3_takeWindow 35 = .ok (.bipush 48, 2) := by decide +kernel
theorem dX3_takeWindow_37 : decode cX3_takeWindow 37 = .ok (.invokevirtual 100, 3) := by decide +kernel
theorem dX3_takeWindow_40 : decode cX3_takeWindow 40 = .ok (.ifCond .ne 5, 3) := by decide +kernel
theorem dX3_takeWindow_43 : decode cX3_takeWindow 43 = .ok (.iconst 0, 1) := by decide +kernel
theorem dX3_takeWindow_44 : decode cX3_takeWindow 44 = .ok (.ireturn, 1) := by decide +kernel
theorem dX3_takeWindow_45 : decode cX3_takeWindow 45 = .ok (.aload_n 0, 1) := by decide +kernel
theorem dX3_takeWindow_46 : decode cX3_takeWindow 46 = .ok (.getfield 18, 3) := by decide +kernel
theorem dX3_takeWindow_49 : decode cX3_takeWindow 49 = .ok (.aload_n 0, 1) := by decide +kernel
theorem dX3_takeWindow_50 : decode cX3_takeWindow 50 = .ok (.getfield 97, 3) := by decide +kernel
theorem dX3_takeWindow_53 : decode cX3_takeWindow 53 = .ok (.putfield 166, 3) := by decide +kernel
theorem dX3_takeWindow_56 : decode cX3_takeWindow 56 = .ok (.iconst 1, 1) := by decide +kernel
theorem dX3_takeWindow_57 : decode cX3_takeWindow 57 = .ok (.ireturn, 1) := by decide +kernel
theorem dX3_takeBack_0 : decode cX3_takeBack 0 = .ok (.aload_n 0, 1) := by decide +kernel
theorem dX3_takeBack_1 : decode cX3_takeBack 1 = .ok (.iconst 0, 1) := by decide +kernel
theorem dX3_takeBack_2 : decode cX3_takeBack 2 = .ok (.sipush 150, 3) := by decide +kernel
theorem dX3_takeBack_5 : decode cX3_takeBack 5 = .ok (.invokevirtual 100, 3) := by decide +kernel
theorem dX3_takeBack_8 : decode cX3_takeBack 8 = .ok (.ifCond .ne 5, 3) := by decide +kernel
theorem dX3_takeBack_11 : decode cX3_takeBack 11 = .ok (.iconst 0, 1) := by decide +kernel
theorem dX3_takeBack_12 : decode cX3_takeBack 12 = .ok (.ireturn, 1) := by decide +kernel
theorem dX3_takeBack_13 : decode cX3_takeBack 13 = .ok (.aload_n 0, 1) := by decide +kernel
theorem dX3_takeBack_14 : decode cX3_takeBack 14 = .ok (.getfield 18, 3) := by decide +kernel
theorem dX3_takeBack_17 : decode cX3_takeBack 17 = .ok (.aload_n 0, 1) := by decide +kernel
theorem dX3_takeBack_18 : decode cX3_takeBack 18 = .ok (.getfield 97, 3) := by decide +kernel
theorem dX3_takeBack_21 : decode cX3_takeBack 21 = .ok (.putfield 169, 3) := by decide +kernel
theorem dX3_takeBack_24 : decode cX3_takeBack 24 = .ok (.iconst 1, 1) := by decide +kernel
theorem dX3_takeBack_25 : decode cX3_takeBack 25 = .ok (.ireturn, 1) := by decide +kernel
theorem dX3_takeControl_0 : decode cX3_takeControl 0 = .ok (.aload_n 0, 1) := by decide +kernel
theorem dX3_takeControl_1 : decode cX3_takeControl 1 = .ok (.iconst 0, 1) := by decide +kernel
theorem dX3_takeControl_2 : decode cX3_takeControl 2 = .ok (.bipush 50, 2) := by decide +kernel
theorem dX3_takeControl_4 : decode cX3_takeControl 4 = .ok (.invokevirtual 100, 3) := by decide +kernel
theorem dX3_takeControl_7 : decode cX3_takeControl 7 = .ok (.ifCond .ne 5, 3) := by decide +kernel
theorem dX3_takeControl_10 : decode cX3_takeControl 10 = .ok (.iconst 0, 1) := by decide +kernel
theorem dX3_takeControl_11 : decode cX3_takeControl 11 = .ok (.ireturn, 1) := by decide +kernel
theorem dX3_takeControl_12 : decode cX3_takeControl 12 = .ok (.aload_n 0, 1) := by decide +kernel
theorem dX3_takeControl_13 : decode cX3_takeControl 13 = .ok (.getfield 18, 3) := by decide +kernel
theorem dX3_takeControl_16 : decode cX3_takeControl 16 = .ok (.aload_n 0, 1) := by decide +kernel
theorem dX3_takeControl_17 : decode cX3_takeControl 17 = .ok (.getfield 97, 3) := by decide +kernel
theorem dX3_takeControl_20 : decode cX3_takeControl 20 = .ok (.putfield 172, 3) := by decide +kernel
theorem dX3_takeControl_23 : decode cX3_takeControl 23 = .ok (.aload_n 0, 1) := by decide +kernel
theorem dX3_takeControl_24 : decode cX3_takeControl 24 = .ok (.iconst 1, 1) := by decide +kernel
theorem dX3_takeControl_25 : decode cX3_takeControl 25 = .ok (.bipush 50, 2) := by decide +kernel
theorem dX3_takeControl_27 : decode cX3_takeControl 27 = .ok (.invokevirtual 100, 3) := by decide +kernel
theorem dX3_takeControl_30 : decode cX3_takeControl 30 = .ok (.ifCond .ne 5, 3) := by decide +kernel
theorem dX3_takeControl_33 : decode cX3_takeControl 33 = .ok (.iconst 0, 1) := by decide +kernel
theorem dX3_takeControl_34 : decode cX3_takeControl 34 = .ok (.ireturn, 1) := by decide +kernel
theorem dX3_takeControl_35 : decode cX3_takeControl 35 = .ok (.aload_n 0, 1) := by decide +kernel
theorem dX3_takeControl_36 : decode cX3_takeControl 36 = .ok (.getfield 18, 3) := by decide +kernel
theorem dX3_takeControl_39 : decode cX3_takeControl 39 = .ok (.aload_n 0, 1) := by decide +kernel
theorem dX3_takeControl_40 : decode cX3_takeControl 40 = .ok (.getfield 97, 3) := by decide +kernel
theorem dX3_takeControl_43 : decode cX3_takeControl 43 = .ok (.putfield 175, 3) := by decide +kernel
theorem dX3_takeControl_46 : decode cX3_takeControl 46 = .ok (.aload_n 0, 1) := by decide +kernel
theorem dX3_takeControl_47 : decode cX3_takeControl 47 = .ok (.iconst 1, 1) := by decide +kernel
theorem dX3_takeControl_48 : decode cX3_takeControl 48 = .ok (.bipush 100, 2) := by decide +kernel
theorem dX3_takeControl_50 : decode cX3_takeControl 50 = .ok (.invokevirtual 100, 3) := by decide +kernel
theorem dX3_takeControl_53 : decode cX3_takeControl 53 = .ok (.ifCond .ne 5, 3) := by decide +kernel
theorem dX3_takeControl_56 : decode cX3_takeControl 56 = .ok (.iconst 0, 1) := by decide +kernel
theorem dX3_takeControl_57 : decode cX3_takeControl 57 = .ok (.ireturn, 1) := by decide +kernel
theorem dX3_takeControl_58 : decode cX3_takeControl 58 = .ok (.aload_n 0, 1) := by decide +kernel
theorem dX3_takeControl_59 : decode cX3_takeControl 59 = .ok (.getfield 18, 3) := by decide +kernel
theorem dX3_takeControl_62 : decode cX3_takeControl 62 = .ok (.aload_n 0, 1) := by decide +kernel
theorem dX3_takeControl_63 : decode cX3_takeControl 63 = .ok (.getfield 97, 3) := by decide +kernel
theorem dX3_takeControl_66 : decode cX3_takeControl 66 = .ok (.putfield 178, 3) := by decide +kernel
theorem dX3_takeControl_69 : decode cX3_takeControl 69 = .ok (.iconst 1, 1) := by decide +kernel
theorem dX3_takeControl_70 : decode cX3_takeControl 70 = .ok (.ireturn, 1) := by decide +kernel
theorem dX3_takeExercise_0 : decode cX3_takeExercise 0 = .ok (.aload_n 0, 1) := by decide +kernel
theorem dX3_takeExercise_1 : decode cX3_takeExercise 1 = .ok (.iconst 0, 1) := by decide +kernel
theorem dX3_takeExercise_2 : decode cX3_takeExercise 2 = .ok (.sipush 335, 3) := by decide +kernel
theorem dX3_takeExercise_5 : decode cX3_takeExercise 5 = .ok (.invokevirtual 100, 3) := by decide +kernel
theorem dX3_takeExercise_8 : decode cX3_takeExercise 8 = .ok (.ifCond .ne 5, 3) := by decide +kernel
theorem dX3_takeExercise_11 : decode cX3_takeExercise 11 = .ok (.iconst 0, 1) := by decide +kernel
theorem dX3_takeExercise_12 : decode cX3_takeExercise 12 = .ok (.ireturn, 1) := by decide +kernel
theorem dX3_takeExercise_13 : decode cX3_takeExercise 13 = .ok (.aload_n 0, 1) := by decide +kernel
theorem dX3_takeExercise_14 : decode cX3_takeExercise 14 = .ok (.getfield 18, 3) := by decide +kernel
theorem dX3_takeExercise_17 : decode cX3_takeExercise 17 = .ok (.aload_n 0, 1) := by decide +kernel
theorem dX3_takeExercise_18 : decode cX3_takeExercise 18 = .ok (.getfield 97, 3) := by decide +kernel
theorem dX3_takeExercise_21 : decode cX3_takeExercise 21 = .ok (.putfield 181, 3) := by decide +kernel
theorem dX3_takeExercise_24 : decode cX3_takeExercise 24 = .ok (.iconst 1, 1) := by decide +kernel
theorem dX3_takeExercise_25 : decode cX3_takeExercise 25 = .ok (.ireturn, 1) := by decide +kernel
theorem dX3_takeNewRoom_0 : decode cX3_takeNewRoom 0 = .ok (.aload_n 0, 1) := by decide +kernel
theorem dX3_takeNewRoom_1 : decode cX3_takeNewRoom 1 = .ok (.getfield 18, 3) := by decide +kernel
theorem dX3_takeNewRoom_4 : decode cX3_takeNewRoom 4 = .ok (.getfield 140, 3) := by decide +kernel
theorem dX3_takeNewRoom_7 : decode cX3_takeNewRoom 7 = .ok (.bipush 6, 2) := by decide +kernel
theorem dX3_takeNewRoom_9 : decode cX3_takeNewRoom 9 = .ok (.if_icmp .lt 9, 3) := by decide +kernel
theorem dX3_takeNewRoom_12 : decode cX3_takeNewRoom 12 = .ok (.aload_n 0, 1) := by decide +kernel
theorem dX3_takeNewRoom_13 : decode cX3_takeNewRoom 13 = .ok (.iconst 5, 1) := by decide +kernel
theorem dX3_takeNewRoom_14 : decode cX3_takeNewRoom 14 = .ok (.invokevirtual 56, 3) := by decide +kernel
theorem dX3_takeNewRoom_17 : decode cX3_takeNewRoom 17 = .ok (.ireturn, 1) := by decide +kernel
theorem dX3_takeNewRoom_18 : decode cX3_takeNewRoom 18 = .ok (.aload_n 0, 1) := by decide +kernel
theorem dX3_takeNewRoom_19 : decode cX3_takeNewRoom 19 = .ok (.invokevirtual 90, 3) := by decide +kernel
theorem dX3_takeNewRoom_22 : decode cX3_takeNewRoom 22 = .ok (.aload_n 0, 1) := by decide +kernel
theorem dX3_takeNewRoom_23 : decode cX3_takeNewRoom 23 = .ok (.invokevirtual 184, 3) := by decide +kernel
theorem dX3_takeNewRoom_26 : decode cX3_takeNewRoom 26 = .ok (.ifCond .ne 9, 3) := by decide +kernel
theorem dX3_takeNewRoom_29 : decode cX3_takeNewRoom 29 = .ok (.aload_n 0, 1) := by decide +kernel
theorem dX3_takeNewRoom_30 : decode cX3_takeNewRoom 30 = .ok (.iconst 1, 1) := by decide +kernel
theorem dX3_takeNewRoom_31 : decode cX3_takeNewRoom 31 = .ok (.invokevirtual 56, 3) := by decide +kernel
theorem dX3_takeNewRoom_34 : decode cX3_takeNewRoom 34 = .ok (.ireturn, 1) := by decide +kernel
theorem dX3_takeNewRoom_35 : decode cX3_takeNewRoom 35 = .ok (.aload_n 0, 1) := by decide +kernel
theorem dX3_takeNewRoom_36 : decode cX3_takeNewRoom 36 = .ok (.getfield 18, 3) := by decide +kernel
theorem dX3_takeNewRoom_39 : decode cX3_takeNewRoom 39 = .ok (.aload_n 0, 1) := by decide +kernel
theorem dX3_takeNewRoom_40 : decode cX3_takeNewRoom 40 = .ok (.getfield 9, 3) := by decide +kernel
theorem dX3_takeNewRoom_43 : decode cX3_takeNewRoom 43 = .ok (.aload_n 0, 1) := by decide +kernel
theorem dX3_takeNewRoom_44 : decode cX3_takeNewRoom 44 = .ok (.getfield 25, 3) := by decide +kernel
theorem dX3_takeNewRoom_47 : decode cX3_takeNewRoom 47 = .ok (.getfield 70, 3) := by decide +kernel
theorem dX3_takeNewRoom_50 : decode cX3_takeNewRoom 50 = .ok (.aload_n 0, 1) := by decide +kernel
theorem dX3_takeNewRoom_51 : decode cX3_takeNewRoom 51 = .ok (.getfield 37, 3) := by decide +kernel
theorem dX3_takeNewRoom_54 : decode cX3_takeNewRoom 54 = .ok (.iaload, 1) := by decide +kernel
theorem dX3_takeNewRoom_55 : decode cX3_takeNewRoom 55 = .ok (.aload_n 0, 1) := by decide +kernel
theorem dX3_takeNewRoom_56 : decode cX3_takeNewRoom 56 = .ok (.getfield 25, 3) := by decide +kernel
theorem dX3_takeNewRoom_59 : decode cX3_takeNewRoom 59 = .ok (.getfield 84, 3) := by decide +kernel
theorem dX3_takeNewRoom_62 : decode cX3_takeNewRoom 62 = .ok (.aload_n 0, 1) := by decide +kernel
theorem dX3_takeNewRoom_63 : decode cX3_takeNewRoom 63 = .ok (.getfield 37, 3) := by decide +kernel
theorem dX3_takeNewRoom_66 : decode cX3_takeNewRoom 66 = .ok (.iaload, 1) := by decide +kernel
theorem dX3_takeNewRoom_67 : decode cX3_takeNewRoom 67 = .ok (.invokevirtual 187, 3) := by decide +kernel
theorem dX3_takeNewRoom_70 : decode cX3_takeNewRoom 70 = .ok (.iconst (-1), 1) := by decide +kernel
theorem dX3_takeNewRoom_71 : decode cX3_takeNewRoom 71 = .ok (.if_icmp .eq 9, 3) := by decide +kernel
theorem dX3_takeNewRoom_74 : decode cX3_takeNewRoom 74 = .ok (.aload_n 0, 1) := by decide +kernel
theorem dX3_takeNewRoom_75 : decode cX3_takeNewRoom 75 = .ok (.iconst 3, 1) := by decide +kernel
theorem dX3_takeNewRoom_76 : decode cX3_takeNewRoom 76 = .ok (.invokevirtual 56, 3) := by decide +kernel
theorem dX3_takeNewRoom_79 : decode cX3_takeNewRoom 79 = .ok (.ireturn, 1) := by decide +kernel
theorem dX3_takeNewRoom_80 : decode cX3_takeNewRoom 80 = .ok (.aload_n 0, 1) := by decide +kernel
theorem dX3_takeNewRoom_81 : decode cX3_takeNewRoom 81 = .ok (.getfield 18, 3) := by decide +kernel
theorem dX3_takeNewRoom_84 : decode cX3_takeNewRoom 84 = .ok (.getfield 136, 3) := by decide +kernel
theorem dX3_takeNewRoom_87 : decode cX3_takeNewRoom 87 = .ok (.aload_n 0, 1) := by decide +kernel
theorem dX3_takeNewRoom_88 : decode cX3_takeNewRoom 88 = .ok (.getfield 18, 3) := by decide +kernel
theorem dX3_takeNewRoom_91 : decode cX3_takeNewRoom 91 = .ok (.getfield 140, 3) := by decide +kernel
theorem dX3_takeNewRoom_94 : decode cX3_takeNewRoom 94 = .ok (.aaload, 1) := by decide +kernel
theorem dX3_takeNewRoom_95 : decode cX3_takeNewRoom 95 = .ok (.aload_n 0, 1) := by decide +kernel
theorem dX3_takeNewRoom_96 : decode cX3_takeNewRoom 96 = .ok (.invokevirtual 191, 3) := by decide +kernel
theorem dX3_takeNewRoom_99 : decode cX3_takeNewRoom 99 = .ok (.invokevirtual 195, 3) := by decide +kernel
theorem dX3_takeNewRoom_102 : decode cX3_takeNewRoom 102 = .ok (.aload_n 0, 1) := by decide +kernel
theorem dX3_takeNewRoom_103 : decode cX3_takeNewRoom 103 = .ok (.getfield 18, 3) := by decide +kernel
theorem dX3_takeNewRoom_106 : decode cX3_takeNewRoom 106 = .ok (.dup, 1) := by decide +kernel
theorem dX3_takeNewRoom_107 : decode cX3_takeNewRoom 107 = .ok (.getfield 140, 3) := by decide +kernel
theorem dX3_takeNewRoom_110 : decode cX3_takeNewRoom 110 = .ok (.iconst 1, 1) := by decide +kernel
theorem dX3_takeNewRoom_111 : decode cX3_takeNewRoom 111 = .ok (.iadd, 1) := by decide +kernel
theorem dX3_takeNewRoom_112 : decode cX3_takeNewRoom 112 = .ok (.putfield 140, 3) := by decide +kernel
theorem dX3_takeNewRoom_115 : decode cX3_takeNewRoom 115 = .ok (.aload_n 0, 1) := by decide +kernel
theorem dX3_takeNewRoom_116 : decode cX3_takeNewRoom 116 = .ok (.invokevirtual 90, 3) := by decide +kernel
theorem dX3_takeNewRoom_119 : decode cX3_takeNewRoom 119 = .ok (.iconst 1, 1) := by decide +kernel
theorem dX3_takeNewRoom_120 : decode cX3_takeNewRoom 120 = .ok (.ireturn, 1) := by decide +kernel
theorem dX3_takeFittings_0 : decode cX3_takeFittings 0 = .ok (.aload_n 0, 1) := by decide +kernel
theorem dX3_takeFittings_1 : decode cX3_takeFittings 1 = .ok (.getstatic 201, 3) := by decide +kernel
theorem dX3_takeFittings_4 : decode cX3_takeFittings 4 = .ok (.invokevirtual 163, 3) := by decide +kernel
theorem dX3_takeFittings_7 : decode cX3_takeFittings 7 = .ok (.ifCond .eq 14, 3) := by decide +kernel
theorem dX3_takeFittings_10 : decode cX3_takeFittings 10 = .ok (.aload_n 0, 1) := by decide +kernel
theorem dX3_takeFittings_11 : decode cX3_takeFittings 11 = .ok (.iconst 0, 1) := by decide +kernel
theorem dX3_takeFittings_12 : decode cX3_takeFittings 12 = .ok (.sipush 400, 3) := by decide +kernel
theorem dX3_takeFittings_15 : decode cX3_takeFittings 15 = .ok (.invokevirtual 100, 3) := by decide +kernel
theorem dX3_takeFittings_18 : decode cX3_takeFittings 18 = .ok (.ifCond .ne 5, 3) := by decide +kernel
theorem dX3_takeFittings_21 : decode cX3_takeFittings 21 = .ok (.iconst 0, 1) := by decide +kernel
theorem dX3_takeFittings_22 : decode cX3_takeFittings 22 = .ok (.ireturn, 1) := by decide +kernel
theorem dX3_takeFittings_23 : decode cX3_takeFittings 23 = .ok (.aload_n 1, 1) := by decide +kernel
theorem dX3_takeFittings_24 : decode cX3_takeFittings 24 = .ok (.aload_n 0, 1) := by decide +kernel
theorem dX3_takeFittings_25 : decode cX3_takeFittings 25 = .ok (.getfield 97, 3) := by decide +kernel
theorem dX3_takeFittings_28 : decode cX3_takeFittings 28 = .ok (.putfield 204, 3) := by decide +kernel
theorem dX3_takeFittings_31 : decode cX3_takeFittings 31 = .ok (.aload_n 0, 1) := by decide +kernel
theorem dX3_takeFittings_32 : decode cX3_takeFittings 32 = .ok (.getstatic 207, 3) := by decide +kernel
theorem dX3_takeFittings_35 : decode cX3_takeFittings 35 = .ok (.iconst 1, 1) := by decide +kernel
theorem dX3_takeFittings_36 : decode cX3_takeFittings 36 = .ok (.bipush 50, 2) := by decide +kernel
theorem dX3_takeFittings_38 : decode cX3_takeFittings 38 = .ok (.bipush 10, 2) := by decide +kernel
theorem dX3_takeFittings_40 : decode cX3_takeFittings 40 = .ok (.invokevirtual 210, 3) := by decide +kernel
theorem dX3_takeFittings_43 : decode cX3_takeFittings 43 = .ok (.ifCond .ne 5, 3) := by decide +kernel
theorem dX3_takeFittings_46 : decode cX3_takeFittings 46 = .ok (.iconst 0, 1) := by decide +kernel
theorem dX3_takeFittings_47 : decode cX3_takeFittings 47 = .ok (.ireturn, 1) := by decide +kernel
theorem dX3_takeFittings_48 : decode cX3_takeFittings 48 = .ok (.aload_n 1, 1) := by decide +kernel
theorem dX3_takeFittings_49 : decode cX3_takeFittings 49 = .ok (.aload_n 0, 1) := by decide +kernel
theorem dX3_takeFittings_50 : decode cX3_takeFittings 50 = .ok (.getfield 97, 3) := by decide +kernel
theorem dX3_takeFittings_53 : decode cX3_takeFittings 53 = .ok (.putfield 214, 3) := by decide +kernel
theorem dX3_takeFittings_56 : decode cX3_takeFittings 56 = .ok (.aload_n 0, 1) := by decide +kernel
theorem dX3_takeFittings_57 : decode cX3_takeFittings 57 = .ok (.getstatic 217, 3) := by decide +kernel
theorem dX3_takeFittings_60 : decode cX3_takeFittings 60 = .ok (.iconst 0, 1) := by decide +kernel
theorem dX3_takeFittings_61 : decode cX3_takeFittings 61 = .ok (.bipush 50, 2) := by decide +kernel
theorem dX3_takeFittings_63 : decode cX3_takeFittings 63 = .ok (.iconst 4, 1) := by decide +kernel
theorem dX3_takeFittings_64 : decode cX3_takeFittings 64 = .ok (.invokevirtual 210, 3) := by decide +kernel
theorem dX3_takeFittings_67 : decode cX3_takeFittings 67 = .ok (.ifCond .ne 5, 3) := by decide +kernel
theorem dX3_takeFittings_70 : decode cX3_takeFittings 70 = .ok (.iconst 0, 1) := by decide +kernel
theorem dX3_takeFittings_71 : decode cX3_takeFittings 71 = .ok (.ireturn, 1) := by decide +kernel
theorem dX3_takeFittings_72 : decode cX3_takeFittings 72 = .ok (.aload_n 1, 1) := by decide +kernel
theorem dX3_takeFittings_73 : decode cX3_takeFittings 73 = .ok (.aload_n 0, 1) := by decide +kernel
theorem dX3_takeFittings_74 : decode cX3_takeFittings 74 = .ok (.getfield 97, 3) := by decide +kernel
theorem dX3_takeFittings_77 : decode cX3_takeFittings 77 = .ok (.putfield 220, 3) := by decide +kernel
theorem dX3_takeFittings_80 : decode cX3_takeFittings 80 = .ok (.aload_n 0, 1) := by decide +kernel
theorem dX3_takeFittings_81 : decode cX3_takeFittings 81 = .ok (.getstatic 223, 3) := by decide +kernel
theorem dX3_takeFittings_84 : decode cX3_takeFittings 84 = .ok (.iconst 0, 1) := by decide +kernel
theorem dX3_takeFittings_85 : decode cX3_takeFittings 85 = .ok (.bipush 100, 2) := by decide +kernel
theorem dX3_takeFittings_87 : decode cX3_takeFittings 87 = .ok (.iconst 0, 1) := by decide +kernel
theorem dX3_takeFittings_88 : decode cX3_takeFittings 88 = .ok (.invokevirtual 210, 3) := by decide +kernel
theorem dX3_takeFittings_91 : decode cX3_takeFittings 91 = .ok (.ifCond .ne 5, 3) := by decide +kernel
theorem dX3_takeFittings_94 : decode cX3_takeFittings 94 = .ok (.iconst 0, 1) := by decide +kernel
theorem dX3_takeFittings_95 : decode cX3_takeFittings 95 = .ok (.ireturn, 1) := by decide +kernel
theorem dX3_takeFittings_96 : decode cX3_takeFittings 96 = .ok (.aload_n 1, 1) := by decide +kernel
theorem dX3_takeFittings_97 : decode cX3_takeFittings 97 = .ok (.aload_n 0, 1) := by decide +kernel
theorem dX3_takeFittings_98 : decode cX3_takeFittings 98 = .ok (.getfield 97, 3) := by decide +kernel
theorem dX3_takeFittings_101 : decode cX3_takeFittings 101 = .ok (.putfield 226, 3) := by decide +kernel
theorem dX3_takeFittings_104 : decode cX3_takeFittings 104 = .ok (.aload_n 0, 1) := by decide +kernel
theorem dX3_takeFittings_105 : decode cX3_takeFittings 105 = .ok (.getstatic 229, 3) := by decide +kernel
theorem dX3_takeFittings_108 : decode cX3_takeFittings 108 = .ok (.iconst 0, 1) := by decide +kernel
theorem dX3_takeFittings_109 : decode cX3_takeFittings 109 = .ok (.sipush 9999, 3) := by decide +kernel
theorem dX3_takeFittings_112 : decode cX3_takeFittings 112 = .ok (.sipush 1000, 3) := by decide +kernel
theorem dX3_takeFittings_115 : decode cX3_takeFittings 115 = .ok (.invokevirtual 210, 3) := by decide +kernel
theorem dX3_takeFittings_118 : decode cX3_takeFittings 118 = .ok (.ifCond .ne 5, 3) := by decide +kernel
theorem dX3_takeFittings_121 : decode cX3_takeFittings 121 = .ok (.iconst 0, 1) := by decide +kernel
theorem dX3_takeFittings_122 : decode cX3_takeFittings 122 = .ok (.ireturn, 1) := by decide +kernel
theorem dX3_takeFittings_123 : decode cX3_takeFittings 123 = .ok (.aload_n 1, 1) := by decide +kernel
theorem dX3_takeFittings_124 : decode cX3_takeFittings 124 = .ok (.aload_n 0, 1) := by decide +kernel
theorem dX3_takeFittings_125 : decode cX3_takeFittings 125 = .ok (.getfield 97, 3) := by decide +kernel
theorem dX3_takeFittings_128 : decode cX3_takeFittings 128 = .ok (.putfield 232, 3) := by decide +kernel
theorem dX3_takeFittings_131 : decode cX3_takeFittings 131 = .ok (.iconst 1, 1) := by decide +kernel
theorem dX3_takeFittings_132 : decode cX3_takeFittings 132 = .ok (.ireturn, 1) := by decide +kernel
theorem dX3_wordHere_0 : decode cX3_wordHere 0 = .ok (.aload_n 0, 1) := by decide +kernel
theorem dX3_wordHere_1 : decode cX3_wordHere 1 = .ok (.getfield 25, 3) := by decide +kernel
theorem dX3_wordHere_4 : decode cX3_wordHere 4 = .ok (.getfield 84, 3) := by decide +kernel
theorem dX3_wordHere_7 : decode cX3_wordHere 7 = .ok (.aload_n 0, 1) := by decide +kernel
theorem dX3_wordHere_8 : decode cX3_wordHere 8 = .ok (.getfield 37, 3) := by decide +kernel
theorem dX3_wordHere_11 : decode cX3_wordHere 11 = .ok (.iaload, 1) := by decide +kernel
theorem dX3_wordHere_12 : decode cX3_wordHere 12 = .ok (.newarray .char, 2) := by decide +kernel
theorem dX3_wordHere_14 : decode cX3_wordHere 14 = .ok (.astore_n 1, 1) := by decide +kernel
theorem dX3_wordHere_15 : decode cX3_wordHere 15 = .ok (.iconst 0, 1) := by decide +kernel
theorem dX3_wordHere_16 : decode cX3_wordHere 16 = .ok (.istore_n 2, 1) := by decide +kernel
theorem dX3_wordHere_17 : decode cX3_wordHere 17 = .ok (.iload_n 2, 1) := by decide +kernel
theorem dX3_wordHere_18 : decode cX3_wordHere 18 = .ok (.aload_n 1, 1) := by decide +kernel
theorem dX3_wordHere_19 : decode cX3_wordHere 19 = .ok (.arraylength, 1) := by decide +kernel
theorem dX3_wordHere_20 : decode cX3_wordHere 20 = .ok (.if_icmp .ge 32, 3) := by decide +kernel
theorem dX3_wordHere_23 : decode cX3_wordHere 23 = .ok (.aload_n 1, 1) := by decide +kernel
theorem dX3_wordHere_24 : decode cX3_wordHere 24 = .ok (.iload_n 2, 1) := by decide +kernel
theorem dX3_wordHere_25 : decode cX3_wordHere 25 = .ok (.aload_n 0, 1) := by decide +kernel
theorem dX3_wordHere_26 : decode cX3_wordHere 26 = .ok (.getfield 9, 3) := by decide +kernel
theorem dX3_wordHere_29 : decode cX3_wordHere 29 = .ok (.aload_n 0, 1) := by decide +kernel
theorem dX3_wordHere_30 : decode cX3_wordHere 30 = .ok (.getfield 25, 3) := by decide +kernel
theorem dX3_wordHere_33 : decode cX3_wordHere 33 = .ok (.getfield 70, 3) := by decide +kernel
theorem dX3_wordHere_36 : decode cX3_wordHere 36 = .ok (.aload_n 0, 1) := by decide +kernel
theorem dX3_wordHere_37 : decode cX3_wordHere 37 = .ok (.getfield 37, 3) := by decide +kernel
theorem dX3_wordHere_40 : decode cX3_wordHere 40 = .ok (.iaload, 1) := by decide +kernel
theorem dX3_wordHere_41 : decode cX3_wordHere 41 = .ok (.iload_n 2, 1) := by decide +kernel
theorem dX3_wordHere_42 : decode cX3_wordHere 42 = .ok (.iadd, 1) := by decide +kernel
theorem dX3_wordHere_43 : decode cX3_wordHere 43 = .ok (.baload, 1) := by decide +kernel
theorem dX3_wordHere_44 : decode cX3_wordHere 44 = .ok (.i2c, 1) := by decide +kernel
theorem dX3_wordHere_45 : decode cX3_wordHere 45 = .ok (.castore, 1) := by decide +kernel
theorem dX3_wordHere_46 : decode cX3_wordHere 46 = .ok (.iinc 2 1, 3) := by decide +kernel
theorem dX3_wordHere_49 : decode cX3_wordHere 49 = .ok (.goto (-32), 3) := by decide +kernel
theorem dX3_wordHere_52 : decode cX3_wordHere 52 = .ok (.new 235, 3) := by decide +kernel
theorem dX3_wordHere_55 : decode cX3_wordHere 55 = .ok (.dup, 1) := by decide +kernel
theorem dX3_wordHere_56 : decode cX3_wordHere 56 = .ok (.aload_n 1, 1) := by decide +kernel
theorem dX3_wordHere_57 : decode cX3_wordHere 57 = .ok (.invokespecial 237, 3) := by decide +kernel
theorem dX3_wordHere_60 : decode cX3_wordHere 60 = .ok (.areturn, 1) := by decide +kernel
theorem dX3_knownRoomHere_0 : decode cX3_knownRoomHere 0 = .ok (.aload_n 0, 1) := by decide +kernel
theorem dX3_knownRoomHere_1 : decode cX3_knownRoomHere 1 = .ok (.invokevirtual 184, 3) := by decide +kernel
theorem dX3_knownRoomHere_4 : decode cX3_knownRoomHere 4 = .ok (.ifCond .ne 11, 3) := by decide +kernel
theorem dX3_knownRoomHere_7 : decode cX3_knownRoomHere 7 = .ok (.aload_n 0, 1) := by decide +kernel
theorem dX3_knownRoomHere_8 : decode cX3_knownRoomHere 8 = .ok (.iconst 1, 1) := by decide +kernel
theorem dX3_knownRoomHere_9 : decode cX3_knownRoomHere 9 = .ok (.invokevirtual 56, 3) := by decide +kernel
theorem dX3_knownRoomHere_12 : decode cX3_knownRoomHere 12 = .ok (.pop, 1) := by decide +kernel
theorem dX3_knownRoomHere_13 : decode cX3_knownRoomHere 13 = .ok (.iconst (-1), 1) := by decide +kernel
theorem dX3_knownRoomHere_14 : decode cX3_knownRoomHere 14 = .ok (.ireturn, 1) := by decide +kernel
theorem dX3_knownRoomHere_15 : decode cX3_knownRoomHere 15 = .ok (.aload_n 0, 1) := by decide +kernel
theorem dX3_knownRoomHere_16 : decode cX3_knownRoomHere 16 = .ok (.getfield 18, 3) := by decide +kernel
theorem dX3_knownRoomHere_19 : decode cX3_knownRoomHere 19 = .ok (.aload_n 0, 1) := by decide +kernel
theorem dX3_knownRoomHere_20 : decode cX3_knownRoomHere 20 = .ok (.getfield 9, 3) := by decide +kernel
theorem dX3_knownRoomHere_23 : decode cX3_knownRoomHere 23 = .ok (.aload_n 0, 1) := by decide +kernel
theorem dX3_knownRoomHere_24 : decode cX3_knownRoomHere 24 = .ok (.getfield 25, 3) := by decide +kernel
theorem dX3_knownRoomHere_27 : decode cX3_knownRoomHere 27 = .ok (.getfield 70, 3) := by decide +kernel
theorem dX3_knownRoomHere_30 : decode cX3_knownRoomHere 30 = .ok (.aload_n 0, 1) := by decide +kernel
theorem dX3_knownRoomHere_31 : decode cX3_knownRoomHere 31 = .ok (.getfield 37, 3) := by decide +kernel
theorem dX3_knownRoomHere_34 : decode cX3_knownRoomHere 34 = .ok (.iaload, 1) := by decide +kernel
theorem dX3_knownRoomHere_35 : decode cX3_knownRoomHere 35 = .ok (.aload_n 0, 1) := by decide +kernel
theorem dX3_knownRoomHere_36 : decode cX3_knownRoomHere 36 = .ok (.getfield 25, 3) := by decide +kernel
theorem dX3_knownRoomHere_39 : decode cX3_knownRoomHere 39 = .ok (.getfield 84, 3) := by decide +kernel
theorem dX3_knownRoomHere_42 : decode cX3_knownRoomHere 42 = .ok (.aload_n 0, 1) := by decide +kernel
theorem dX3_knownRoomHere_43 : decode cX3_knownRoomHere 43 = .ok (.getfield 37, 3) := by decide +kernel
theorem dX3_knownRoomHere_46 : decode cX3_knownRoomHere 46 = .ok (.iaload, 1) := by decide +kernel
theorem dX3_knownRoomHere_47 : decode cX3_knownRoomHere 47 = .ok (.invokevirtual 187, 3) := by decide +kernel
theorem dX3_knownRoomHere_50 : decode cX3_knownRoomHere 50 = .ok (.istore_n 1, 1) := by decide +kernel
theorem dX3_knownRoomHere_51 : decode cX3_knownRoomHere 51 = .ok (.iload_n 1, 1) := by decide +kernel
theorem dX3_knownRoomHere_52 : decode cX3_knownRoomHere 52 = .ok (.iconst (-1), 1) := by decide +kernel
theorem dX3_knownRoomHere_53 : decode cX3_knownRoomHere 53 = .ok (.if_icmp .ne 9, 3) := by decide +kernel
theorem dX3_knownRoomHere_56 : decode cX3_knownRoomHere 56 = .ok (.aload_n 0, 1) := by decide +kernel
theorem dX3_knownRoomHere_57 : decode cX3_knownRoomHere 57 = .ok (.iconst 4, 1) := by decide +kernel
theorem dX3_knownRoomHere_58 : decode cX3_knownRoomHere 58 = .ok (.invokevirtual 56, 3) := by decide +kernel
theorem dX3_knownRoomHere_61 : decode cX3_knownRoomHere 61 = .ok (.pop, 1) := by decide +kernel
theorem dX3_knownRoomHere_62 : decode cX3_knownRoomHere 62 = .ok (.iload_n 1, 1) := by decide +kernel
theorem dX3_knownRoomHere_63 : decode cX3_knownRoomHere 63 = .ok (.ireturn, 1) := by decide +kernel
theorem dX3_takeProgram_0 : decode cX3_takeProgram 0 = .ok (.aload_n 0, 1) := by decide +kernel
theorem dX3_takeProgram_1 : decode cX3_takeProgram 1 = .ok (.invokevirtual 90, 3) := by decide +kernel
theorem dX3_takeProgram_4 : decode cX3_takeProgram 4 = .ok (.aload_n 0, 1) := by decide +kernel
theorem dX3_takeProgram_5 : decode cX3_takeProgram 5 = .ok (.invokevirtual 240, 3) := by decide +kernel
theorem dX3_takeProgram_8 : decode cX3_takeProgram 8 = .ok (.istore_n 1, 1) := by decide +kernel
theorem dX3_takeProgram_9 : decode cX3_takeProgram 9 = .ok (.iload_n 1, 1) := by decide +kernel
theorem dX3_takeProgram_10 : decode cX3_takeProgram 10 = .ok (.iconst (-1), 1) := by decide +kernel
theorem dX3_takeProgram_11 : decode cX3_takeProgram 11 = .ok (.if_icmp .ne 5, 3) := by decide +kernel
theorem dX3_takeProgram_14 : decode cX3_takeProgram 14 = .ok (.iconst 0, 1) := by decide +kernel
theorem dX3_takeProgram_15 : decode cX3_takeProgram 15 = .ok (.ireturn, 1) := by decide +kernel
theorem dX3_takeProgram_16 : decode cX3_takeProgram 16 = .ok (.aload_n 0, 1) := by decide +kernel
theorem dX3_takeProgram_17 : decode cX3_takeProgram 17 = .ok (.getfield 18, 3) := by decide +kernel
theorem dX3_takeProgram_20 : decode cX3_takeProgram 20 = .ok (.getfield 136, 3) := by decide +kernel
theorem dX3_takeProgram_23 : decode cX3_takeProgram 23 = .ok (.iload_n 1, 1) := by decide +kernel
theorem dX3_takeProgram_24 : decode cX3_takeProgram 24 = .ok (.aaload, 1) := by decide +kernel
theorem dX3_takeProgram_25 : decode cX3_takeProgram 25 = .ok (.astore_n 2, 1) := by decide +kernel
theorem dX3_takeProgram_26 : decode cX3_takeProgram 26 = .ok (.aload_n 2, 1) := by decide +kernel
theorem dX3_takeProgram_27 : decode cX3_takeProgram 27 = .ok (.getfield 243, 3) := by decide +kernel
theorem dX3_takeProgram_30 : decode cX3_takeProgram 30 = .ok (.ifCond .le 9, 3) := by decide +kernel
theorem dX3_takeProgram_33 : decode cX3_takeProgram 33 = .ok (.aload_n 0, 1) := by decide +kernel
theorem dX3_takeProgram_34 : decode cX3_takeProgram 34 = .ok (.iconst 3, 1) := by decide +kernel
theorem dX3_takeProgram_35 : decode cX3_takeProgram 35 = .ok (.invokevirtual 56, 3) := by decide +kernel
theorem dX3_takeProgram_38 : decode cX3_takeProgram 38 = .ok (.ireturn, 1) := by decide +kernel
theorem dX3_takeProgram_39 : decode cX3_takeProgram 39 = .ok (.aload_n 0, 1) := by decide +kernel
theorem dX3_takeProgram_40 : decode cX3_takeProgram 40 = .ok (.invokevirtual 90, 3) := by decide +kernel
theorem dX3_takeProgram_43 : decode cX3_takeProgram 43 = .ok (.iconst 1, 1) := by decide +kernel
theorem dX3_takeProgram_44 : decode cX3_takeProgram 44 = .ok (.istore_n 3, 1) := by decide +kernel
theorem dX3_takeProgram_45 : decode cX3_takeProgram 45 = .ok (.iconst 0, 1) := by decide +kernel
theorem dX3_takeProgram_46 : decode cX3_takeProgram 46 = .ok (.istore 4, 2) := by decide +kernel
theorem dX3_takeProgram_48 : decode cX3_takeProgram 48 = .ok (.iload 4, 2) := by decide +kernel
theorem dX3_takeProgram_50 : decode cX3_takeProgram 50 = .ok (.aload_n 0, 1) := by decide +kernel
theorem dX3_takeProgram_51 : decode cX3_takeProgram 51 = .ok (.getfield 25, 3) := by decide +kernel
theorem dX3_takeProgram_54 : decode cX3_takeProgram 54 = .ok (.getfield 60, 3) := by decide +kernel
theorem dX3_takeProgram_57 : decode cX3_takeProgram 57 = .ok (.if_icmp .ge 38, 3) := by decide +kernel
theorem dX3_takeProgram_60 : decode cX3_takeProgram 60 = .ok (.iload_n 3, 1) := by decide +kernel
theorem dX3_takeProgram_61 : decode cX3_takeProgram 61 = .ok (.ifCond .eq 34, 3) := by decide +kernel
theorem dX3_takeProgram_64 : decode cX3_takeProgram 64 = .ok (.aload_n 0, 1) := by decide +kernel
theorem dX3_takeProgram_65 : decode cX3_takeProgram 65 = .ok (.aload_n 2, 1) := by decide +kernel
theorem dX3_takeProgram_66 : decode cX3_takeProgram 66 = .ok (.invokevirtual 246, 3) := by decide +kernel
theorem dX3_takeProgram_69 : decode cX3_takeProgram 69 = .ok (.ifCond .ne 5, 3) := by decide +kernel
theorem dX3_takeProgram_72 : decode cX3_takeProgram 72 = .ok (.iconst 0, 1) := by decide +kernel
theorem dX3_takeProgram_73 : decode cX3_takeProgram 73 = .ok (.ireturn, 1) := by decide +kernel
theorem dX3_takeProgram_74 : decode cX3_takeProgram 74 = .ok (.aload_n 0, 1) := by decide +kernel
theorem dX3_takeProgram_75 : decode cX3_takeProgram 75 = .ok (.bipush 44, 2) := by decide +kernel
theorem dX3_takeProgram_77 : decode cX3_takeProgram 77 = .ok (.invokevirtual 87, 3) := by decide +kernel
theorem dX3_takeProgram_80 : decode cX3_takeProgram 80 = .ok (.istore_n 3, 1) := by decide +kernel
theorem dX3_takeProgram_81 : decode cX3_takeProgram 81 = .ok (.iload_n 3, 1) := by decide +kernel
theorem dX3_takeProgram_82 : decode cX3_takeProgram 82 = .ok (.ifCond .eq 7, 3) := by decide +kernel
theorem dX3_takeProgram_85 : decode cX3_takeProgram 85 = .ok (.aload_n 0, 1) := by decide +kernel
theorem dX3_takeProgram_86 : decode cX3_takeProgram 86 = .ok (.invokevirtual 90, 3) := by decide +kernel
theorem dX3_takeProgram_89 : decode cX3_takeProgram 89 = .ok (.iinc 4 1, 3) := by decide +kernel
theorem dX3_takeProgram_92 : decode cX3_takeProgram 92 = .ok (.goto (-44), 3) := by decide +kernel
theorem dX3_takeProgram_95 : decode cX3_takeProgram 95 = .ok (.iconst 1, 1) := by decide +kernel
theorem dX3_takeProgram_96 : decode cX3_takeProgram 96 = .ok (.ireturn, 1) := by decide +kernel
theorem dX3_takeEntry_0 : decode cX3_takeEntry 0 = .ok (.aload_n 0, 1) := by decide +kernel
theorem dX3_takeEntry_1 : decode cX3_takeEntry 1 = .ok (.getfield 25, 3) := by decide +kernel
theorem dX3_takeEntry_4 : decode cX3_takeEntry 4 = .ok (.getfield 74, 3) := by decide +kernel
theorem dX3_takeEntry_7 : decode cX3_takeEntry 7 = .ok (.aload_n 0, 1) := by decide +kernel
theorem dX3_takeEntry_8 : decode cX3_takeEntry 8 = .ok (.getfield 37, 3) := by decide +kernel
theorem dX3_takeEntry_11 : decode cX3_takeEntry 11 = .ok (.iaload, 1) := by decide +kernel
theorem dX3_takeEntry_12 : decode cX3_takeEntry 12 = .ok (.iconst 2, 1) := by decide +kernel
theorem dX3_takeEntry_13 : decode cX3_takeEntry 13 = .ok (.if_icmp .ne 29, 3) := by decide +kernel
theorem dX3_takeEntry_16 : decode cX3_takeEntry 16 = .ok (.aload_n 1, 1) := by decide +kernel
theorem dX3_takeEntry_17 : decode cX3_takeEntry 17 = .ok (.aload_n 0, 1) := by decide +kernel
theorem dX3_takeEntry_18 : decode cX3_takeEntry 18 = .ok (.getfield 25, 3) := by decide +kernel
theorem dX3_takeEntry_21 : decode cX3_takeEntry 21 = .ok (.getfield 77, 3) := by decide +kernel
theorem dX3_takeEntry_24 : decode cX3_takeEntry 24 = .ok (.aload_n 0, 1) := by decide +kernel
theorem dX3_takeEntry_25 : decode cX3_takeEntry 25 = .ok (.getfield 37, 3) := by decide +kernel
theorem dX3_takeEntry_28 : decode cX3_takeEntry 28 = .ok (.iaload, 1) := by decide +kernel
theorem dX3_takeEntry_29 : decode cX3_takeEntry 29 = .ok (.invokevirtual 249, 3) := by decide +kernel
theorem dX3_takeEntry_32 : decode cX3_takeEntry 32 = .ok (.iconst (-1), 1) := by decide +kernel
theorem dX3_takeEntry_33 : decode cX3_takeEntry 33 = .ok (.if_icmp .eq 9, 3) := by decide +kernel
theorem dX3_takeEntry_36 : decode cX3_takeEntry 36 = .ok (.aload_n 0, 1) := by decide +kernel
theorem dX3_takeEntry_37 : decode cX3_takeEntry 37 = .ok (.iconst 3, 1) := by decide +kernel
theorem dX3_takeEntry_38 : decode cX3_takeEntry 38 = .ok (.invokevirtual 56, 3) := by decide +kernel
theorem dX3_takeEntry_41 : decode cX3_takeEntry 41 = .ok (.ireturn, 1) := by decide +kernel
theorem dX3_takeEntry_42 : decode cX3_takeEntry 42 = .ok (.aload_n 0, 1) := by decide +kernel
theorem dX3_takeEntry_43 : decode cX3_takeEntry 43 = .ok (.iconst 0, 1) := by decide +kernel
theorem dX3_takeEntry_44 : decode cX3_takeEntry 44 = .ok (.bipush 47, 2) := by decide +kernel
theorem dX3_takeEntry_46 : decode cX3_takeEntry 46 = .ok (.invokevirtual 100, 3) := by decide +kernel
theorem dX3_takeEntry_49 : decode cX3_takeEntry 49 = .ok (.ifCond .ne 5, 3) := by decide +kernel
theorem dX3_takeEntry_52 : decode cX3_takeEntry 52 = .ok (.iconst 0, 1) := by decide +kernel
theorem dX3_takeEntry_53 : decode cX3_takeEntry 53 = .ok (.ireturn, 1) := by decide +kernel
theorem dX3_takeEntry_54 : decode cX3_takeEntry 54 = .ok (.aload_n 0, 1) := by decide +kernel
theorem dX3_takeEntry_55 : decode cX3_takeEntry 55 = .ok (.getfield 97, 3) := by decide +kernel
theorem dX3_takeEntry_58 : decode cX3_takeEntry 58 = .ok (.istore_n 2, 1) := by decide +kernel
theorem dX3_takeEntry_59 : decode cX3_takeEntry 59 = .ok (.aload_n 0, 1) := by decide +kernel
theorem dX3_takeEntry_60 : decode cX3_takeEntry 60 = .ok (.bipush 58, 2) := by decide +kernel
theorem dX3_takeEntry_62 : decode cX3_takeEntry 62 = .ok (.invokevirtual 66, 3) := by decide +kernel
theorem dX3_takeEntry_65 : decode cX3_takeEntry 65 = .ok (.ifCond .eq 15, 3) := by decide +kernel
theorem dX3_takeEntry_68 : decode cX3_takeEntry 68 = .ok (.aload_n 0, 1) := by decide +kernel
theorem dX3_takeEntry_69 : decode cX3_takeEntry 69 = .ok (.bipush 50, 2) := by decide +kernel
theorem dX3_takeEntry_71 : decode cX3_takeEntry 71 = .ok (.sipush 300, 3) := by decide +kernel
theorem dX3_takeEntry_74 : decode cX3_takeEntry 74 = .ok (.invokevirtual 100, 3) := by decide +kernel
theorem dX3_takeEntry_77 : decode cX3_takeEntry 77 = .ok (.ifCond .ne 5, 3) := by decide +kernel
theorem dX3_takeEntry_80 : decode cX3_takeEntry 80 = .ok (.iconst 0, 1) := by decide +kernel
theorem dX3_takeEntry_81 : decode cX3_takeEntry 81 = .ok (.ireturn, 1) := by decide +kernel
theorem dX3_takeEntry_82 : decode cX3_takeEntry 82 = .ok (.aload_n 1, 1) := by decide +kernel
theorem dX3_takeEntry_83 : decode cX3_takeEntry 83 = .ok (.iload_n 2, 1) := by decide +kernel
theorem dX3_takeEntry_84 : decode cX3_takeEntry 84 = .ok (.aload_n 0, 1) := by decide +kernel
theorem dX3_takeEntry_85 : decode cX3_takeEntry 85 = .ok (.getfield 97, 3) := by decide +kernel
theorem dX3_takeEntry_88 : decode cX3_takeEntry 88 = .ok (.invokevirtual 253, 3) := by decide +kernel
theorem dX3_takeEntry_91 : decode cX3_takeEntry 91 = .ok (.iconst 1, 1) := by decide +kernel
theorem dX3_takeEntry_92 : decode cX3_takeEntry 92 = .ok (.ireturn, 1) := by decide +kernel
theorem dX3_takePlan_0 : decode cX3_takePlan 0 = .ok (.aload_n 0, 1) := by decide +kernel
theorem dX3_takePlan_1 : decode cX3_takePlan 1 = .ok (.getfield 18, 3) := by decide +kernel
theorem dX3_takePlan_4 : decode cX3_takePlan 4 = .ok (.getfield 257, 3) := by decide +kernel
theorem dX3_takePlan_7 : decode cX3_takePlan 7 = .ok (.bipush 20, 2) := by decide +kernel
theorem dX3_takePlan_9 : decode cX3_takePlan 9 = .ok (.if_icmp .lt 9, 3) := by decide +kernel
theorem dX3_takePlan_12 : decode cX3_takePlan 12 = .ok (.aload_n 0, 1) := by decide +kernel
theorem dX3_takePlan_13 : decode cX3_takePlan 13 = .ok (.iconst 5, 1) := by decide +kernel
theorem dX3_takePlan_14 : decode cX3_takePlan 14 = .ok (.invokevirtual 56, 3) := by decide +kernel
theorem dX3_takePlan_17 : decode cX3_takePlan 17 = .ok (.ireturn, 1) := by decide +kernel
theorem dX3_takePlan_18 : decode cX3_takePlan 18 = .ok (.aload_n 0, 1) := by decide +kernel
theorem dX3_takePlan_19 : decode cX3_takePlan 19 = .ok (.invokevirtual 90, 3) := by decide +kernel
theorem dX3_takePlan_22 : decode cX3_takePlan 22 = .ok (.aload_n 0, 1) := by decide +kernel
theorem dX3_takePlan_23 : decode cX3_takePlan 23 = .ok (.iconst 1, 1) := by decide +kernel
theorem dX3_takePlan_24 : decode cX3_takePlan 24 = .ok (.sipush 9999, 3) := by decide +kernel
theorem dX3_takePlan_27 : decode cX3_takePlan 27 = .ok (.invokevirtual 100, 3) := by decide +kernel
theorem dX3_takePlan_30 : decode cX3_takePlan 30 = .ok (.ifCond .ne 5, 3) := by decide +kernel
theorem dX3_takePlan_33 : decode cX3_takePlan 33 = .ok (.iconst 0, 1) := by decide +kernel
theorem dX3_takePlan_34 : decode cX3_takePlan 34 = .ok (.ireturn, 1) := by decide +kernel
theorem dX3_takePlan_35 : decode cX3_takePlan 35 = .ok (.aload_n 0, 1) := by decide +kernel
theorem dX3_takePlan_36 : decode cX3_takePlan 36 = .ok (.getfield 97, 3) := by decide +kernel
theorem dX3_takePlan_39 : decode cX3_takePlan 39 = .ok (.istore_n 1, 1) := by decide +kernel
theorem dX3_takePlan_40 : decode cX3_takePlan 40 = .ok (.aload_n 0, 1) := by decide +kernel
theorem dX3_takePlan_41 : decode cX3_takePlan 41 = .ok (.invokevirtual 240, 3) := by decide +kernel
theorem dX3_takePlan_44 : decode cX3_takePlan 44 = .ok (.istore_n 2, 1) := by decide +kernel
theorem dX3_takePlan_45 : decode cX3_takePlan 45 = .ok (.iload_n 2, 1) := by decide +kernel
theorem dX3_takePlan_46 : decode cX3_takePlan 46 = .ok (.iconst (-1), 1) := by decide +kernel
theorem dX3_takePlan_47 : decode cX3_takePlan 47 = .ok (.if_icmp .ne 5, 3) := by decide +kernel
theorem dX3_takePlan_50 : decode cX3_takePlan 50 = .ok (.iconst 0, 1) := by decide +kernel
theorem dX3_takePlan_51 : decode cX3_takePlan 51 = .ok (.ireturn, 1) := by decide +kernel
theorem dX3_takePlan_52 : decode cX3_takePlan 52 = .ok (.aload_n 0, 1) := by decide +kernel
theorem dX3_takePlan_53 : decode cX3_takePlan 53 = .ok (.invokevirtual 90, 3) := by decide +kernel
theorem dX3_takePlan_56 : decode cX3_takePlan 56 = .ok (.aload_n 0, 1) := by decide +kernel
theorem dX3_takePlan_57 : decode cX3_takePlan 57 = .ok (.invokevirtual 260, 3) := by decide +kernel
theorem dX3_takePlan_60 : decode cX3_takePlan 60 = .ok (.istore_n 3, 1) := by decide +kernel
theorem dX3_takePlan_61 : decode cX3_takePlan 61 = .ok (.iload_n 3, 1) := by decide +kernel
theorem dX3_takePlan_62 : decode cX3_takePlan 62 = .ok (.iconst (-1), 1) := by decide +kernel
theorem dX3_takePlan_63 : decode cX3_takePlan 63 = .ok (.if_icmp .ne 9, 3) := by decide +kernel
theorem dX3_takePlan_66 : decode cX3_takePlan 66 = .ok (.aload_n 0, 1) := by decide +kernel
theorem dX3_takePlan_67 : decode cX3_takePlan 67 = .ok (.iconst 1, 1) := by decide +kernel
theorem dX3_takePlan_68 : decode cX3_takePlan 68 = .ok (.invokevirtual 56, 3) := by decide +kernel
theorem dX3_takePlan_71 : decode cX3_takePlan 71 = .ok (.ireturn, 1) := by decide +kernel
theorem dX3_takePlan_72 : decode cX3_takePlan 72 = .ok (.aload_n 0, 1) := by decide +kernel
theorem dX3_takePlan_73 : decode cX3_takePlan 73 = .ok (.invokevirtual 90, 3) := by decide +kernel
theorem dX3_takePlan_76 : decode cX3_takePlan 76 = .ok (.aload_n 0, 1) := by decide +kernel
theorem dX3_takePlan_77 : decode cX3_takePlan 77 = .ok (.getfield 18, 3) := by decide +kernel
theorem dX3_takePlan_80 : decode cX3_takePlan 80 = .ok (.iload_n 1, 1) := by decide +kernel
theorem dX3_takePlan_81 : decode cX3_takePlan 81 = .ok (.iload_n 2, 1) := by decide +kernel
theorem dX3_takePlan_82 : decode cX3_takePlan 82 = .ok (.iload_n 3, 1) := by decide +kernel
theorem dX3_takePlan_83 : decode cX3_takePlan 83 = .ok (.invokevirtual 263, 3) := by decide +kernel
theorem dX3_takePlan_86 : decode cX3_takePlan 86 = .ok (.pop, 1) := by decide +kernel
theorem dX3_takePlan_87 : decode cX3_takePlan 87 = .ok (.iconst 1, 1) := by decide +kernel
theorem dX3_takePlan_88 : decode cX3_takePlan 88 = .ok (.ireturn, 1) := by decide +kernel
theorem dX3_planKindHere_0 : decode cX3_planKindHere 0 = .ok (.aload_n 0, 1) := by decide +kernel
theorem dX3_planKindHere_1 : decode cX3_planKindHere 1 = .ok (.getstatic 267, 3) := by decide +kernel
theorem dX3_planKindHere_4 : decode cX3_planKindHere 4 = .ok (.invokevirtual 93, 3) := by decide +kernel
theorem dX3_planKindHere_7 : decode cX3_planKindHere 7 = .ok (.ifCond .eq 5, 3) := by decide +kernel
theorem dX3_planKindHere_10 : decode cX3_planKindHere 10 = .ok (.iconst 0, 1) := by decide +kernel
theorem dX3_planKindHere_11 : decode cX3_planKindHere 11 = .ok (.ireturn, 1) := by decide +kernel
theorem dX3_planKindHere_12 : decode cX3_planKindHere 12 = .ok (.aload_n 0, 1) := by decide +kernel
theorem dX3_planKindHere_13 : decode cX3_planKindHere 13 = .ok (.getstatic 270, 3) := by decide +kernel
theorem dX3_planKindHere_16 : decode cX3_planKindHere 16 = .ok (.invokevirtual 93, 3) := by decide +kernel
theorem dX3_planKindHere_19 : decode cX3_planKindHere 19 = .ok (.ifCond .eq 5, 3) := by decide +kernel
theorem dX3_planKindHere_22 : decode cX3_planKindHere 22 = .ok (.iconst 1, 1) := by decide +kernel
theorem dX3_planKindHere_23 : decode cX3_planKindHere 23 = .ok (.ireturn, 1) := by decide +kernel
theorem dX3_planKindHere_24 : decode cX3_planKindHere 24 = .ok (.aload_n 0, 1) := by decide +kernel
theorem dX3_planKindHere_25 : decode cX3_planKindHere 25 = .ok (.getstatic 273, 3) := by decide +kernel
theorem dX3_planKindHere_28 : decode cX3_planKindHere 28 = .ok (.invokevirtual 93, 3) := by decide +kernel
theorem dX3_planKindHere_31 : decode cX3_planKindHere 31 = .ok (.ifCond .eq 5, 3) := by decide +kernel
theorem dX3_planKindHere_34 : decode cX3_planKindHere 34 = .ok (.iconst 2, 1) := by decide +kernel
theorem dX3_planKindHere_35 : decode cX3_planKindHere 35 = .ok (.ireturn, 1) := by decide +kernel
theorem dX3_planKindHere_36 : decode cX3_planKindHere 36 = .ok (.aload_n 0, 1) := by decide +kernel
theorem dX3_planKindHere_37 : decode cX3_planKindHere 37 = .ok (.getstatic 276, 3) := by decide +kernel
theorem dX3_planKindHere_40 : decode cX3_planKindHere 40 = .ok (.invokevirtual 93, 3) := by decide +kernel
theorem dX3_planKindHere_43 : decode cX3_planKindHere 43 = .ok (.ifCond .eq 7, 3) := by decide +kernel
theorem dX3_planKindHere_46 : decode cX3_planKindHere 46 = .ok (.iconst 3, 1) := by decide +kernel
theorem dX3_planKindHere_47 : decode cX3_planKindHere 47 = .ok (.goto 4, 3) := by decide +kernel
theorem dX3_planKindHere_50 : decode cX3_planKindHere 50 = .ok (.iconst (-1), 1) := by decide +kernel
theorem dX3_planKindHere_51 : decode cX3_planKindHere 51 = .ok (.ireturn, 1) := by decide +kernel
