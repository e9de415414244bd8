/-! decode rows, out of the printed names -/
theorem dX6_init_0 : decode cX6_init 0 = .ok (.aload_n 0, 1) := by decide +kernel
theorem dX6_init_1 : decode cX6_init 1 = .ok (.invokespecial 1, 3) := by decide +kernel
theorem dX6_init_4 : decode cX6_init 4 = .ok (.aload_n 0, 1) := by decide +kernel
theorem dX6_init_5 : decode cX6_init 5 = .ok (.new 7, 3) := by decide +kernel
theorem dX6_init_8 : decode cX6_init 8 = .ok (.dup, 1) := by decide +kernel
theorem dX6_init_9 : decode cX6_init 9 = .ok (.invokespecial 9, 3) := by decide +kernel
theorem dX6_init_12 : decode cX6_init 12 = .ok (.putfield 10, 3) := by decide +kernel
theorem dX6_init_15 : decode cX6_init 15 = .ok (.aload_n 0, 1) := by decide +kernel
theorem dX6_init_16 : decode cX6_init 16 = .ok (.new 16, 3) := by decide +kernel
theorem dX6_init_19 : decode cX6_init 19 = .ok (.dup, 1) := by decide +kernel
theorem dX6_init_20 : decode cX6_init 20 = .ok (.invokespecial 18, 3) := by decide +kernel
theorem dX6_init_23 : decode cX6_init 23 = .ok (.putfield 19, 3) := by decide +kernel
theorem dX6_init_26 : decode cX6_init 26 = .ok (.aload_n 0, 1) := by decide +kernel
theorem dX6_init_27 : decode cX6_init 27 = .ok (.new 23, 3) := by decide +kernel
theorem dX6_init_30 : decode cX6_init 30 = .ok (.dup, 1) := by decide +kernel
theorem dX6_init_31 : decode cX6_init 31 = .ok (.invokespecial 25, 3) := by decide +kernel
theorem dX6_init_34 : decode cX6_init 34 = .ok (.putfield 26, 3) := by decide +kernel
theorem dX6_init_37 : decode cX6_init 37 = .ok (.aload_n 0, 1) := by decide +kernel
theorem dX6_init_38 : decode cX6_init 38 = .ok (.new 23, 3) := by decide +kernel
theorem dX6_init_41 : decode cX6_init 41 = .ok (.dup, 1) := by decide +kernel
theorem dX6_init_42 : decode cX6_init 42 = .ok (.invokespecial 25, 3) := by decide +kernel
theorem dX6_init_45 : decode cX6_init 45 = .ok (.putfield 30, 3) := by decide +kernel
theorem dX6_init_48 : decode cX6_init 48 = .ok (.aload_n 0, 1) := by decide +kernel
theorem dX6_init_49 : decode cX6_init 49 = .ok (.bipush 6, 2) := by decide +kernel
theorem dX6_init_51 : decode cX6_init 51 = .ok (.anewarray 23, 3) := by decide +kernel
theorem dX6_init_54 : decode cX6_init 54 = .ok (.putfield 33, 3) := by decide +kernel
theorem dX6_init_57 : decode cX6_init 57 = .ok (.aload_n 0, 1) := by decide +kernel
theorem dX6_init_58 : decode cX6_init 58 = .ok (.iconst 2, 1) := by decide +kernel
theorem dX6_init_59 : decode cX6_init 59 = .ok (.anewarray 23, 3) := by decide +kernel
theorem dX6_init_62 : decode cX6_init 62 = .ok (.putfield 37, 3) := by decide +kernel
theorem dX6_init_65 : decode cX6_init 65 = .ok (.aload_n 0, 1) := by decide +kernel
theorem dX6_init_66 : decode cX6_init 66 = .ok (.iconst 2, 1) := by decide +kernel
theorem dX6_init_67 : decode cX6_init 67 = .ok (.newarray .boolean, 2) := by decide +kernel
theorem dX6_init_69 : decode cX6_init 69 = .ok (.putfield 40, 3) := by decide +kernel
theorem dX6_init_72 : decode cX6_init 72 = .ok (.aload_n 0, 1) := by decide +kernel
theorem dX6_init_73 : decode cX6_init 73 = .ok (.iconst (-1), 1) := by decide +kernel
theorem dX6_init_74 : decode cX6_init 74 = .ok (.putfield 44, 3) := by decide +kernel
theorem dX6_init_77 : decode cX6_init 77 = .ok (.iconst 0, 1) := by decide +kernel
theorem dX6_init_78 : decode cX6_init 78 = .ok (.istore_n 1, 1) := by decide +kernel
theorem dX6_init_79 : decode cX6_init 79 = .ok (.iload_n 1, 1) := by decide +kernel
theorem dX6_init_80 : decode cX6_init 80 = .ok (.aload_n 0, 1) := by decide +kernel
theorem dX6_init_81 : decode cX6_init 81 = .ok (.getfield 33, 3) := by decide +kernel
theorem dX6_init_84 : decode cX6_init 84 = .ok (.arraylength, 1) := by decide +kernel
theorem dX6_init_85 : decode cX6_init 85 = .ok (.if_icmp .ge 22, 3) := by decide +kernel
theorem dX6_init_88 : decode cX6_init 88 = .ok (.aload_n 0, 1) := by decide +kernel
theorem dX6_init_89 : decode cX6_init 89 = .ok (.getfield 33, 3) := by decide +kernel
theorem dX6_init_92 : decode cX6_init 92 = .ok (.iload_n 1, 1) := by decide +kernel
theorem dX6_init_93 : decode cX6_init 93 = .ok (.new 23, 3) := by decide +kernel
theorem dX6_init_96 : decode cX6_init 96 = .ok (.dup, 1) := by decide +kernel
theorem dX6_init_97 : decode cX6_init 97 = .ok (.invokespecial 25, 3) := by decide +kernel
theorem dX6_init_100 : decode cX6_init 100 = .ok (.aastore, 1) := by decide +kernel
theorem dX6_init_101 : decode cX6_init 101 = .ok (.iinc 1 1, 3) := by decide +kernel
theorem dX6_init_104 : decode cX6_init 104 = .ok (.goto (-25), 3) := by decide +kernel
theorem dX6_init_107 : decode cX6_init 107 = .ok (.iconst 0, 1) := by decide +kernel
theorem dX6_init_108 : decode cX6_init 108 = .ok (.istore_n 1, 1) := by decide +kernel
theorem dX6_init_109 : decode cX6_init 109 = .ok (.iload_n 1, 1) := by decide +kernel
theorem dX6_init_110 : decode cX6_init 110 = .ok (.aload_n 0, 1) := by decide +kernel
theorem dX6_init_111 : decode cX6_init 111 = .ok (.getfield 37, 3) := by decide +kernel
theorem dX6_init_114 : decode cX6_init 114 = .ok (.arraylength, 1) := by decide +kernel
theorem dX6_init_115 : decode cX6_init 115 = .ok (.if_icmp .ge 22, 3) := by decide +kernel
theorem dX6_init_118 : decode cX6_init 118 = .ok (.aload_n 0, 1) := by decide +kernel
theorem dX6_init_119 : decode cX6_init 119 = .ok (.getfield 37, 3) := by decide +kernel
theorem dX6_init_122 : decode cX6_init 122 = .ok (.iload_n 1, 1) := by decide +kernel
theorem dX6_init_123 : decode cX6_init 123 = .ok (.new 23, 3) := by decide +kernel
theorem dX6_init_126 : decode cX6_init 126 = .ok (.dup, 1) := by decide +kernel
theorem dX6_init_127 : decode cX6_init 127 = .ok (.invokespecial 25, 3) := by decide +kernel
theorem dX6_init_130 : decode cX6_init 130 = .ok (.aastore, 1) := by decide +kernel
theorem dX6_init_131 : decode cX6_init 131 = .ok (.iinc 1 1, 3) := by decide +kernel
theorem dX6_init_134 : decode cX6_init 134 = .ok (.goto (-25), 3) := by decide +kernel
theorem dX6_init_137 : decode cX6_init 137 = .ok (.return_, 1) := by decide +kernel
theorem dX6_append_0 : decode cX6_append 0 = .ok (.aload_n 0, 1) := by decide +kernel
theorem dX6_append_1 : decode cX6_append 1 = .ok (.getfield 10, 3) := by decide +kernel
theorem dX6_append_4 : decode cX6_append 4 = .ok (.getfield 48, 3) := by decide +kernel
theorem dX6_append_7 : decode cX6_append 7 = .ok (.sipush 480, 3) := by decide +kernel
theorem dX6_append_10 : decode cX6_append 10 = .ok (.if_icmp .le 13, 3) := by decide +kernel
theorem dX6_append_13 : decode cX6_append 13 = .ok (.new 51, 3) := by decide +kernel
theorem dX6_append_16 : decode cX6_append 16 = .ok (.dup, 1) := by decide +kernel
theorem dX6_append_17 : decode cX6_append 17 = .ok (.ldc 53, 2) := by decide +kernel
theorem dX6_append_19 : decode cX6_append 19 = .ok (.invokespecial 55, 3) := by decide +kernel
theorem dX6_append_22 : decode cX6_append 22 = .ok (.athrow, 1) := by decide +kernel
theorem dX6_append_23 : decode cX6_append 23 = .ok (.aload_n 0, 1) := by decide +kernel
theorem dX6_append_24 : decode cX6_append 24 = .ok (.getfield 10, 3) := by decide +kernel
theorem dX6_append_27 : decode cX6_append 27 = .ok (.iload_n 1, 1) := by decide +kernel
theorem dX6_append_28 : decode cX6_append 28 = .ok (.invokevirtual 58, 3) := by decide +kernel
theorem dX6_append_31 : decode cX6_append 31 = .ok (.aload_n 0, 1) := by decide +kernel
theorem dX6_append_32 : decode cX6_append 32 = .ok (.getfield 10, 3) := by decide +kernel
theorem dX6_append_35 : decode cX6_append 35 = .ok (.iload_n 2, 1) := by decide +kernel
theorem dX6_append_36 : decode cX6_append 36 = .ok (.invokevirtual 58, 3) := by decide +kernel
theorem dX6_append_39 : decode cX6_append 39 = .ok (.aload_n 0, 1) := by decide +kernel
theorem dX6_append_40 : decode cX6_append 40 = .ok (.getfield 10, 3) := by decide +kernel
theorem dX6_append_43 : decode cX6_append 43 = .ok (.iload_n 3, 1) := by decide +kernel
theorem dX6_append_44 : decode cX6_append 44 = .ok (.invokevirtual 58, 3) := by decide +kernel
theorem dX6_append_47 : decode cX6_append 47 = .ok (.aload_n 0, 1) := by decide +kernel
theorem dX6_append_48 : decode cX6_append 48 = .ok (.getfield 10, 3) := by decide +kernel
theorem dX6_append_51 : decode cX6_append 51 = .ok (.iload 4, 2) := by decide +kernel
theorem dX6_append_53 : decode cX6_append 53 = .ok (.invokevirtual 58, 3) := by decide +kernel
theorem dX6_append_56 : decode cX6_append 56 = .ok (.aload_n 0, 1) := by decide +kernel
theorem dX6_append_57 : decode cX6_append 57 = .ok (.getfield 10, 3) := by decide +kernel
theorem dX6_append_60 : decode cX6_append 60 = .ok (.iload 5, 2) := by decide +kernel
theorem dX6_append_62 : decode cX6_append 62 = .ok (.invokevirtual 58, 3) := by decide +kernel
theorem dX6_append_65 : decode cX6_append 65 = .ok (.aload_n 0, 1) := by decide +kernel
theorem dX6_append_66 : decode cX6_append 66 = .ok (.getfield 10, 3) := by decide +kernel
theorem dX6_append_69 : decode cX6_append 69 = .ok (.getfield 48, 3) := by decide +kernel
theorem dX6_append_72 : decode cX6_append 72 = .ok (.ireturn, 1) := by decide +kernel
theorem dX6_truncate_0 : decode cX6_truncate 0 = .ok (.iload_n 1, 1) := by decide +kernel
theorem dX6_truncate_1 : decode cX6_truncate 1 = .ok (.iconst 0, 1) := by decide +kernel
theorem dX6_truncate_2 : decode cX6_truncate 2 = .ok (.aload_n 0, 1) := by decide +kernel
theorem dX6_truncate_3 : decode cX6_truncate 3 = .ok (.getfield 10, 3) := by decide +kernel
theorem dX6_truncate_6 : decode cX6_truncate 6 = .ok (.getfield 48, 3) := by decide +kernel
theorem dX6_truncate_9 : decode cX6_truncate 9 = .ok (.invokestatic 62, 3) := by decide +kernel
theorem dX6_truncate_12 : decode cX6_truncate 12 = .ok (.aload_n 0, 1) := by decide +kernel
theorem dX6_truncate_13 : decode cX6_truncate 13 = .ok (.getfield 10, 3) := by decide +kernel
theorem dX6_truncate_16 : decode cX6_truncate 16 = .ok (.iload_n 1, 1) := by decide +kernel
theorem dX6_truncate_17 : decode cX6_truncate 17 = .ok (.putfield 48, 3) := by decide +kernel
theorem dX6_truncate_20 : decode cX6_truncate 20 = .ok (.return_, 1) := by decide +kernel
theorem dX6_load_0 : decode cX6_load 0 = .ok (.aload_n 0, 1) := by decide +kernel
theorem dX6_load_1 : decode cX6_load 1 = .ok (.getfield 10, 3) := by decide +kernel
theorem dX6_load_4 : decode cX6_load 4 = .ok (.invokevirtual 66, 3) := by decide +kernel
theorem dX6_load_7 : decode cX6_load 7 = .ok (.istore_n 1, 1) := by decide +kernel
theorem dX6_load_8 : decode cX6_load 8 = .ok (.aload_n 0, 1) := by decide +kernel
theorem dX6_load_9 : decode cX6_load 9 = .ok (.getfield 10, 3) := by decide +kernel
theorem dX6_load_12 : decode cX6_load 12 = .ok (.iconst 0, 1) := by decide +kernel
theorem dX6_load_13 : decode cX6_load 13 = .ok (.putfield 48, 3) := by decide +kernel
theorem dX6_load_16 : decode cX6_load 16 = .ok (.aload_n 0, 1) := by decide +kernel
theorem dX6_load_17 : decode cX6_load 17 = .ok (.aload_n 0, 1) := by decide +kernel
theorem dX6_load_18 : decode cX6_load 18 = .ok (.getfield 10, 3) := by decide +kernel
theorem dX6_load_21 : decode cX6_load 21 = .ok (.getfield 70, 3) := by decide +kernel
theorem dX6_load_24 : decode cX6_load 24 = .ok (.putfield 73, 3) := by decide +kernel
theorem dX6_load_27 : decode cX6_load 27 = .ok (.aload_n 0, 1) := by decide +kernel
theorem dX6_load_28 : decode cX6_load 28 = .ok (.aload_n 0, 1) := by decide +kernel
theorem dX6_load_29 : decode cX6_load 29 = .ok (.getfield 10, 3) := by decide +kernel
theorem dX6_load_32 : decode cX6_load 32 = .ok (.getfield 76, 3) := by decide +kernel
theorem dX6_load_35 : decode cX6_load 35 = .ok (.putfield 44, 3) := by decide +kernel
theorem dX6_load_38 : decode cX6_load 38 = .ok (.iload_n 1, 1) := by decide +kernel
theorem dX6_load_39 : decode cX6_load 39 = .ok (.ifCond .ne 6, 3) := by decide +kernel
theorem dX6_load_42 : decode cX6_load 42 = .ok (.bipush (-4), 2) := by decide +kernel
theorem dX6_load_44 : decode cX6_load 44 = .ok (.ireturn, 1) := by decide +kernel
theorem dX6_load_45 : decode cX6_load 45 = .ok (.aload_n 0, 1) := by decide +kernel
theorem dX6_load_46 : decode cX6_load 46 = .ok (.invokevirtual 79, 3) := by decide +kernel
theorem dX6_load_49 : decode cX6_load 49 = .ok (.aload_n 0, 1) := by decide +kernel
theorem dX6_load_50 : decode cX6_load 50 = .ok (.getfield 26, 3) := by decide +kernel
theorem dX6_load_53 : decode cX6_load 53 = .ok (.aload_n 0, 1) := by decide +kernel
theorem dX6_load_54 : decode cX6_load 54 = .ok (.getfield 10, 3) := by decide +kernel
theorem dX6_load_57 : decode cX6_load 57 = .ok (.getfield 82, 3) := by decide +kernel
theorem dX6_load_60 : decode cX6_load 60 = .ok (.invokevirtual 85, 3) := by decide +kernel
theorem dX6_load_63 : decode cX6_load 63 = .ok (.aload_n 0, 1) := by decide +kernel
theorem dX6_load_64 : decode cX6_load 64 = .ok (.getfield 26, 3) := by decide +kernel
theorem dX6_load_67 : decode cX6_load 67 = .ok (.getfield 89, 3) := by decide +kernel
theorem dX6_load_70 : decode cX6_load 70 = .ok (.ireturn, 1) := by decide +kernel
theorem dX6_errorCode_0 : decode cX6_errorCode 0 = .ok (.aload_n 0, 1) := by decide +kernel
theorem dX6_errorCode_1 : decode cX6_errorCode 1 = .ok (.getfield 73, 3) := by decide +kernel
theorem dX6_errorCode_4 : decode cX6_errorCode 4 = .ok (.ireturn, 1) := by decide +kernel
theorem dX6_property_0 : decode cX6_property 0 = .ok (.iload_n 1, 1) := by decide +kernel
theorem dX6_property_1 : decode cX6_property 1 = .ok (.iconst 0, 1) := by decide +kernel
theorem dX6_property_2 : decode cX6_property 2 = .ok (.bipush 11, 2) := by decide +kernel
theorem dX6_property_4 : decode cX6_property 4 = .ok (.invokestatic 62, 3) := by decide +kernel
theorem dX6_property_7 : decode cX6_property 7 = .ok (.iload_n 1, 1) := by decide +kernel
theorem dX6_property_8 : decode cX6_property 8 = .ok (.tableswitch 148 0 10 #[60, 68, 76, 84, 92, 100, 108, 116, 124, 132, 140], 60) := by decide +kernel
theorem dX6_property_68 : decode cX6_property 68 = .ok (.aload_n 0, 1) := by decide +kernel
theorem dX6_property_69 : decode cX6_property 69 = .ok (.getfield 26, 3) := by decide +kernel
theorem dX6_property_72 : decode cX6_property 72 = .ok (.getfield 89, 3) := by decide +kernel
theorem dX6_property_75 : decode cX6_property 75 = .ok (.ireturn, 1) := by decide +kernel
theorem dX6_property_76 : decode cX6_property 76 = .ok (.aload_n 0, 1) := by decide +kernel
theorem dX6_property_77 : decode cX6_property 77 = .ok (.getfield 26, 3) := by decide +kernel
theorem dX6_property_80 : decode cX6_property 80 = .ok (.getfield 100, 3) := by decide +kernel
theorem dX6_property_83 : decode cX6_property 83 = .ok (.ireturn, 1) := by decide +kernel
theorem dX6_property_84 : decode cX6_property 84 = .ok (.aload_n 0, 1) := by decide +kernel
theorem dX6_property_85 : decode cX6_property 85 = .ok (.getfield 26, 3) := by decide +kernel
theorem dX6_property_88 : decode cX6_property 88 = .ok (.invokevirtual 103, 3) := by decide +kernel
theorem dX6_property_91 : decode cX6_property 91 = .ok (.ireturn, 1) := by decide +kernel
theorem dX6_property_92 : decode cX6_property 92 = .ok (.aload_n 0, 1) := by decide +kernel
theorem dX6_property_93 : decode cX6_property 93 = .ok (.getfield 26, 3) := by decide +kernel
theorem dX6_property_96 : decode cX6_property 96 = .ok (.getfield 107, 3) := by decide +kernel
theorem dX6_property_99 : decode cX6_property 99 = .ok (.ireturn, 1) := by decide +kernel
theorem dX6_property_100 : decode cX6_property 100 = .ok (.aload_n 0, 1) := by decide +kernel
theorem dX6_property_101 : decode cX6_property 101 = .ok (.getfield 26, 3) := by decide +kernel
theorem dX6_property_104 : decode cX6_property 104 = .ok (.getfield 110, 3) := by decide +kernel
theorem dX6_property_107 : decode cX6_property 107 = .ok (.ireturn, 1) := by decide +kernel
theorem dX6_property_108 : decode cX6_property 108 = .ok (.aload_n 0, 1) := by decide +kernel
theorem dX6_property_109 : decode cX6_property 109 = .ok (.getfield 26, 3) := by decide +kernel
theorem dX6_property_112 : decode cX6_property 112 = .ok (.getfield 113, 3) := by decide +kernel
theorem dX6_property_115 : decode cX6_property 115 = .ok (.ireturn, 1) := by decide +kernel
theorem dX6_property_116 : decode cX6_property 116 = .ok (.aload_n 0, 1) := by decide +kernel
theorem dX6_property_117 : decode cX6_property 117 = .ok (.getfield 26, 3) := by decide +kernel
theorem dX6_property_120 : decode cX6_property 120 = .ok (.getfield 116, 3) := by decide +kernel
theorem dX6_property_123 : decode cX6_property 123 = .ok (.ireturn, 1) := by decide +kernel
theorem dX6_property_124 : decode cX6_property 124 = .ok (.aload_n 0, 1) := by decide +kernel
theorem dX6_property_125 : decode cX6_property 125 = .ok (.getfield 26, 3) := by decide +kernel
theorem dX6_property_128 : decode cX6_property 128 = .ok (.getfield 119, 3) := by decide +kernel
theorem dX6_property_131 : decode cX6_property 131 = .ok (.ireturn, 1) := by decide +kernel
theorem dX6_property_132 : decode cX6_property 132 = .ok (.aload_n 0, 1) := by decide +kernel
theorem dX6_property_133 : decode cX6_property 133 = .ok (.getfield 26, 3) := by decide +kernel
theorem dX6_property_136 : decode cX6_property 136 = .ok (.getfield 122, 3) := by decide +kernel
theorem dX6_property_139 : decode cX6_property 139 = .ok (.ireturn, 1) := by decide +kernel
theorem dX6_property_140 : decode cX6_property 140 = .ok (.aload_n 0, 1) := by decide +kernel
theorem dX6_property_141 : decode cX6_property 141 = .ok (.getfield 26, 3) := by decide +kernel
theorem dX6_property_144 : decode cX6_property 144 = .ok (.getfield 125, 3) := by decide +kernel
theorem dX6_property_147 : decode cX6_property 147 = .ok (.ireturn, 1) := by decide +kernel
theorem dX6_property_148 : decode cX6_property 148 = .ok (.aload_n 0, 1) := by decide +kernel
theorem dX6_property_149 : decode cX6_property 149 = .ok (.getfield 26, 3) := by decide +kernel
theorem dX6_property_152 : decode cX6_property 152 = .ok (.getfield 128, 3) := by decide +kernel
theorem dX6_property_155 : decode cX6_property 155 = .ok (.ireturn, 1) := by decide +kernel
theorem dX6_property_156 : decode cX6_property 156 = .ok (.aload_n 0, 1) := by decide +kernel
theorem dX6_property_157 : decode cX6_property 157 = .ok (.getfield 26, 3) := by decide +kernel
theorem dX6_property_160 : decode cX6_property 160 = .ok (.getfield 131, 3) := by decide +kernel
theorem dX6_property_163 : decode cX6_property 163 = .ok (.ireturn, 1) := by decide +kernel
theorem dX6_room_0 : decode cX6_room 0 = .ok (.aload_n 0, 1) := by decide +kernel
theorem dX6_room_1 : decode cX6_room 1 = .ok (.iload_n 1, 1) := by decide +kernel
theorem dX6_room_2 : decode cX6_room 2 = .ok (.invokevirtual 134, 3) := by decide +kernel
theorem dX6_room_5 : decode cX6_room 5 = .ok (.astore_n 3, 1) := by decide +kernel
theorem dX6_room_6 : decode cX6_room 6 = .ok (.iload_n 2, 1) := by decide +kernel
theorem dX6_room_7 : decode cX6_room 7 = .ok (.iconst 0, 1) := by decide +kernel
theorem dX6_room_8 : decode cX6_room 8 = .ok (.bipush 10, 2) := by decide +kernel
theorem dX6_room_10 : decode cX6_room 10 = .ok (.invokestatic 62, 3) := by decide +kernel
theorem dX6_room_13 : decode cX6_room 13 = .ok (.iload_n 2, 1) := by decide +kernel
theorem dX6_room_14 : decode cX6_room 14 = .ok (.tableswitch 131 0 9 #[54, 59, 64, 69, 74, 79, 92, 105, 110, 126], 54) := by decide +kernel
theorem dX6_room_68 : decode cX6_room 68 = .ok (.aload_n 3, 1) := by decide +kernel
theorem dX6_room_69 : decode cX6_room 69 = .ok (.getfield 138, 3) := by decide +kernel
theorem dX6_room_72 : decode cX6_room 72 = .ok (.ireturn, 1) := by decide +kernel
theorem dX6_room_73 : decode cX6_room 73 = .ok (.aload_n 3, 1) := by decide +kernel
theorem dX6_room_74 : decode cX6_room 74 = .ok (.getfield 143, 3) := by decide +kernel
theorem dX6_room_77 : decode cX6_room 77 = .ok (.ireturn, 1) := by decide +kernel
theorem dX6_room_78 : decode cX6_room 78 = .ok (.aload_n 3, 1) := by decide +kernel
theorem dX6_room_79 : decode cX6_room 79 = .ok (.getfield 146, 3) := by decide +kernel
theorem dX6_room_82 : decode cX6_room 82 = .ok (.ireturn, 1) := by decide +kernel
theorem dX6_room_83 : decode cX6_room 83 = .ok (.aload_n 3, 1) := by decide +kernel
theorem dX6_room_84 : decode cX6_room 84 = .ok (.getfield 149, 3) := by decide +kernel
theorem dX6_room_87 : decode cX6_room 87 = .ok (.ireturn, 1) := by decide +kernel
theorem dX6_room_88 : decode cX6_room 88 = .ok (.aload_n 3, 1) := by decide +kernel
theorem dX6_room_89 : decode cX6_room 89 = .ok (.getfield 152, 3) := by decide +kernel
theorem dX6_room_92 : decode cX6_room 92 = .ok (.ireturn, 1) := by decide +kernel
theorem dX6_room_93 : decode cX6_room 93 = .ok (.aload_n 3, 1) := by decide +kernel
theorem dX6_room_94 : decode cX6_room 94 = .ok (.getfield 155, 3) := by decide +kernel
theorem dX6_room_97 : decode cX6_room 97 = .ok (.ifCond .eq 7, 3) := by decide +kernel
theorem dX6_room_100 : decode cX6_room 100 = .ok (.iconst 1, 1) := by decide +kernel
theorem dX6_room_101 : decode cX6_room 101 = .ok (.goto 4, 3) := by decide +kernel
theorem dX6_room_104 : decode cX6_room 104 = .ok (.iconst 0, 1) := by decide +kernel
theorem dX6_room_105 : decode cX6_room 105 = .ok (.ireturn, 1) := by decide +kernel
theorem dX6_room_106 : decode cX6_room 106 = .ok (.aload_n 3, 1) := by decide +kernel
theorem dX6_room_107 : decode cX6_room 107 = .ok (.getfield 159, 3) := by decide +kernel
theorem dX6_room_110 : decode cX6_room 110 = .ok (.ifCond .eq 7, 3) := by decide +kernel
theorem dX6_room_113 : decode cX6_room 113 = .ok (.iconst 1, 1) := by decide +kernel
theorem dX6_room_114 : decode cX6_room 114 = .ok (.goto 4, 3) := by decide +kernel
theorem dX6_room_117 : decode cX6_room 117 = .ok (.iconst 0, 1) := by decide +kernel
theorem dX6_room_118 : decode cX6_room 118 = .ok (.ireturn, 1) := by decide +kernel
theorem dX6_room_119 : decode cX6_room 119 = .ok (.aload_n 3, 1) := by decide +kernel
theorem dX6_room_120 : decode cX6_room 120 = .ok (.getfield 162, 3) := by decide +kernel
theorem dX6_room_123 : decode cX6_room 123 = .ok (.ireturn, 1) := by decide +kernel
theorem dX6_room_124 : decode cX6_room 124 = .ok (.aload_n 3, 1) := by decide +kernel
theorem dX6_room_125 : decode cX6_room 125 = .ok (.getfield 165, 3) := by decide +kernel
theorem dX6_room_128 : decode cX6_room 128 = .ok (.ifCond .le 10, 3) := by decide +kernel
theorem dX6_room_131 : decode cX6_room 131 = .ok (.aload_n 3, 1) := by decide +kernel
theorem dX6_room_132 : decode cX6_room 132 = .ok (.getfield 168, 3) := by decide +kernel
theorem dX6_room_135 : decode cX6_room 135 = .ok (.goto 4, 3) := by decide +kernel
theorem dX6_room_138 : decode cX6_room 138 = .ok (.iconst (-1), 1) := by decide +kernel
theorem dX6_room_139 : decode cX6_room 139 = .ok (.ireturn, 1) := by decide +kernel
theorem dX6_room_140 : decode cX6_room 140 = .ok (.aload_n 3, 1) := by decide +kernel
theorem dX6_room_141 : decode cX6_room 141 = .ok (.getfield 165, 3) := by decide +kernel
theorem dX6_room_144 : decode cX6_room 144 = .ok (.ireturn, 1) := by decide +kernel
theorem dX6_room_145 : decode cX6_room 145 = .ok (.aload_n 3, 1) := by decide +kernel
theorem dX6_room_146 : decode cX6_room 146 = .ok (.getfield 171, 3) := by decide +kernel
theorem dX6_room_149 : decode cX6_room 149 = .ok (.ireturn, 1) := by decide +kernel
theorem dX6_count_0 : decode cX6_count 0 = .ok (.aload_n 0, 1) := by decide +kernel
theorem dX6_count_1 : decode cX6_count 1 = .ok (.iload_n 1, 1) := by decide +kernel
theorem dX6_count_2 : decode cX6_count 2 = .ok (.invokevirtual 134, 3) := by decide +kernel
theorem dX6_count_5 : decode cX6_count 5 = .ok (.astore_n 3, 1) := by decide +kernel
theorem dX6_count_6 : decode cX6_count 6 = .ok (.iload_n 2, 1) := by decide +kernel
theorem dX6_count_7 : decode cX6_count 7 = .ok (.iconst 0, 1) := by decide +kernel
theorem dX6_count_8 : decode cX6_count 8 = .ok (.iconst 5, 1) := by decide +kernel
theorem dX6_count_9 : decode cX6_count 9 = .ok (.invokestatic 62, 3) := by decide +kernel
theorem dX6_count_12 : decode cX6_count 12 = .ok (.aload_n 3, 1) := by decide +kernel
theorem dX6_count_13 : decode cX6_count 13 = .ok (.getfield 174, 3) := by decide +kernel
theorem dX6_count_16 : decode cX6_count 16 = .ok (.iload_n 2, 1) := by decide +kernel
theorem dX6_count_17 : decode cX6_count 17 = .ok (.iaload, 1) := by decide +kernel
theorem dX6_count_18 : decode cX6_count 18 = .ok (.ireturn, 1) := by decide +kernel
theorem dX6_target_0 : decode cX6_target 0 = .ok (.aload_n 0, 1) := by decide +kernel
theorem dX6_target_1 : decode cX6_target 1 = .ok (.getfield 26, 3) := by decide +kernel
theorem dX6_target_4 : decode cX6_target 4 = .ok (.aload_n 0, 1) := by decide +kernel
theorem dX6_target_5 : decode cX6_target 5 = .ok (.iload_n 1, 1) := by decide +kernel
theorem dX6_target_6 : decode cX6_target 6 = .ok (.invokevirtual 134, 3) := by decide +kernel
theorem dX6_target_9 : decode cX6_target 9 = .ok (.invokevirtual 178, 3) := by decide +kernel
theorem dX6_target_12 : decode cX6_target 12 = .ok (.ireturn, 1) := by decide +kernel
theorem dX6_programmed_0 : decode cX6_programmed 0 = .ok (.aload_n 0, 1) := by decide +kernel
theorem dX6_programmed_1 : decode cX6_programmed 1 = .ok (.iload_n 1, 1) := by decide +kernel
theorem dX6_programmed_2 : decode cX6_programmed 2 = .ok (.invokevirtual 134, 3) := by decide +kernel
theorem dX6_programmed_5 : decode cX6_programmed 5 = .ok (.astore_n 3, 1) := by decide +kernel
theorem dX6_programmed_6 : decode cX6_programmed 6 = .ok (.iload_n 2, 1) := by decide +kernel
theorem dX6_programmed_7 : decode cX6_programmed 7 = .ok (.iconst 0, 1) := by decide +kernel
theorem dX6_programmed_8 : decode cX6_programmed 8 = .ok (.bipush 47, 2) := by decide +kernel
theorem dX6_programmed_10 : decode cX6_programmed 10 = .ok (.invokestatic 62, 3) := by decide +kernel
theorem dX6_programmed_13 : decode cX6_programmed 13 = .ok (.aload_n 3, 1) := by decide +kernel
theorem dX6_programmed_14 : decode cX6_programmed 14 = .ok (.iload_n 2, 1) := by decide +kernel
theorem dX6_programmed_15 : decode cX6_programmed 15 = .ok (.invokevirtual 182, 3) := by decide +kernel
theorem dX6_programmed_18 : decode cX6_programmed 18 = .ok (.ireturn, 1) := by decide +kernel
theorem dX6_wanted_0 : decode cX6_wanted 0 = .ok (.aload_n 0, 1) := by decide +kernel
theorem dX6_wanted_1 : decode cX6_wanted 1 = .ok (.getfield 26, 3) := by decide +kernel
theorem dX6_wanted_4 : decode cX6_wanted 4 = .ok (.aload_n 0, 1) := by decide +kernel
theorem dX6_wanted_5 : decode cX6_wanted 5 = .ok (.iload_n 1, 1) := by decide +kernel
theorem dX6_wanted_6 : decode cX6_wanted 6 = .ok (.invokevirtual 134, 3) := by decide +kernel
theorem dX6_wanted_9 : decode cX6_wanted 9 = .ok (.invokevirtual 197, 3) := by decide +kernel
theorem dX6_wanted_12 : decode cX6_wanted 12 = .ok (.ireturn, 1) := by decide +kernel
theorem dX6_why_0 : decode cX6_why 0 = .ok (.aload_n 0, 1) := by decide +kernel
theorem dX6_why_1 : decode cX6_why 1 = .ok (.iload_n 1, 1) := by decide +kernel
theorem dX6_why_2 : decode cX6_why 2 = .ok (.invokevirtual 134, 3) := by decide +kernel
theorem dX6_why_5 : decode cX6_why 5 = .ok (.astore_n 2, 1) := by decide +kernel
theorem dX6_why_6 : decode cX6_why 6 = .ok (.aload_n 2, 1) := by decide +kernel
theorem dX6_why_7 : decode cX6_why 7 = .ok (.getfield 143, 3) := by decide +kernel
theorem dX6_why_10 : decode cX6_why 10 = .ok (.aload_n 0, 1) := by decide +kernel
theorem dX6_why_11 : decode cX6_why 11 = .ok (.getfield 26, 3) := by decide +kernel
theorem dX6_why_14 : decode cX6_why 14 = .ok (.aload_n 2, 1) := by decide +kernel
theorem dX6_why_15 : decode cX6_why 15 = .ok (.invokevirtual 197, 3) := by decide +kernel
theorem dX6_why_18 : decode cX6_why 18 = .ok (.if_icmp .eq 16, 3) := by decide +kernel
theorem dX6_why_21 : decode cX6_why 21 = .ok (.aload_n 2, 1) := by decide +kernel
theorem dX6_why_22 : decode cX6_why 22 = .ok (.getfield 146, 3) := by decide +kernel
theorem dX6_why_25 : decode cX6_why 25 = .ok (.ifCond .le 7, 3) := by decide +kernel
theorem dX6_why_28 : decode cX6_why 28 = .ok (.iconst 0, 1) := by decide +kernel
theorem dX6_why_29 : decode cX6_why 29 = .ok (.goto 4, 3) := by decide +kernel
theorem dX6_why_32 : decode cX6_why 32 = .ok (.iconst 1, 1) := by decide +kernel
theorem dX6_why_33 : decode cX6_why 33 = .ok (.ireturn, 1) := by decide +kernel
theorem dX6_why_34 : decode cX6_why 34 = .ok (.aload_n 2, 1) := by decide +kernel
theorem dX6_why_35 : decode cX6_why 35 = .ok (.getfield 162, 3) := by decide +kernel
theorem dX6_why_38 : decode cX6_why 38 = .ok (.ifCond .le 5, 3) := by decide +kernel
theorem dX6_why_41 : decode cX6_why 41 = .ok (.iconst 2, 1) := by decide +kernel
theorem dX6_why_42 : decode cX6_why 42 = .ok (.ireturn, 1) := by decide +kernel
theorem dX6_why_43 : decode cX6_why 43 = .ok (.aload_n 0, 1) := by decide +kernel
theorem dX6_why_44 : decode cX6_why 44 = .ok (.getfield 26, 3) := by decide +kernel
theorem dX6_why_47 : decode cX6_why 47 = .ok (.aload_n 2, 1) := by decide +kernel
theorem dX6_why_48 : decode cX6_why 48 = .ok (.invokevirtual 200, 3) := by decide +kernel
theorem dX6_why_51 : decode cX6_why 51 = .ok (.istore_n 3, 1) := by decide +kernel
theorem dX6_why_52 : decode cX6_why 52 = .ok (.iload_n 3, 1) := by decide +kernel
theorem dX6_why_53 : decode cX6_why 53 = .ok (.invokestatic 203, 3) := by decide +kernel
theorem dX6_why_56 : decode cX6_why 56 = .ok (.aload_n 0, 1) := by decide +kernel
theorem dX6_why_57 : decode cX6_why 57 = .ok (.getfield 26, 3) := by decide +kernel
theorem dX6_why_60 : decode cX6_why 60 = .ok (.getfield 122, 3) := by decide +kernel
theorem dX6_why_63 : decode cX6_why 63 = .ok (.if_icmp .gt 5, 3) := by decide +kernel
theorem dX6_why_66 : decode cX6_why 66 = .ok (.iconst 3, 1) := by decide +kernel
theorem dX6_why_67 : decode cX6_why 67 = .ok (.ireturn, 1) := by decide +kernel
theorem dX6_why_68 : decode cX6_why 68 = .ok (.iload_n 3, 1) := by decide +kernel
theorem dX6_why_69 : decode cX6_why 69 = .ok (.ifCond .le 7, 3) := by decide +kernel
theorem dX6_why_72 : decode cX6_why 72 = .ok (.iconst 5, 1) := by decide +kernel
theorem dX6_why_73 : decode cX6_why 73 = .ok (.goto 4, 3) := by decide +kernel
theorem dX6_why_76 : decode cX6_why 76 = .ok (.iconst 4, 1) := by decide +kernel
theorem dX6_why_77 : decode cX6_why 77 = .ok (.ireturn, 1) := by decide +kernel
theorem dX6_planned_0 : decode cX6_planned 0 = .ok (.aload_n 0, 1) := by decide +kernel
theorem dX6_planned_1 : decode cX6_planned 1 = .ok (.iload_n 1, 1) := by decide +kernel
theorem dX6_planned_2 : decode cX6_planned 2 = .ok (.invokevirtual 208, 3) := by decide +kernel
theorem dX6_planned_5 : decode cX6_planned 5 = .ok (.iload_n 2, 1) := by decide +kernel
theorem dX6_planned_6 : decode cX6_planned 6 = .ok (.iconst 0, 1) := by decide +kernel
theorem dX6_planned_7 : decode cX6_planned 7 = .ok (.iconst 2, 1) := by decide +kernel
theorem dX6_planned_8 : decode cX6_planned 8 = .ok (.invokestatic 62, 3) := by decide +kernel
theorem dX6_planned_11 : decode cX6_planned 11 = .ok (.iload_n 2, 1) := by decide +kernel
theorem dX6_planned_12 : decode cX6_planned 12 = .ok (.lookupswitch 48 #[(0, 28), (1, 38)], 28) := by decide +kernel
theorem dX6_planned_40 : decode cX6_planned 40 = .ok (.aload_n 0, 1) := by decide +kernel
theorem dX6_planned_41 : decode cX6_planned 41 = .ok (.getfield 26, 3) := by decide +kernel
theorem dX6_planned_44 : decode cX6_planned 44 = .ok (.getfield 211, 3) := by decide +kernel
theorem dX6_planned_47 : decode cX6_planned 47 = .ok (.iload_n 1, 1) := by decide +kernel
theorem dX6_planned_48 : decode cX6_planned 48 = .ok (.iaload, 1) := by decide +kernel
theorem dX6_planned_49 : decode cX6_planned 49 = .ok (.ireturn, 1) := by decide +kernel
theorem dX6_planned_50 : decode cX6_planned 50 = .ok (.aload_n 0, 1) := by decide +kernel
theorem dX6_planned_51 : decode cX6_planned 51 = .ok (.getfield 26, 3) := by decide +kernel
theorem dX6_planned_54 : decode cX6_planned 54 = .ok (.getfield 214, 3) := by decide +kernel
theorem dX6_planned_57 : decode cX6_planned 57 = .ok (.iload_n 1, 1) := by decide +kernel
theorem dX6_planned_58 : decode cX6_planned 58 = .ok (.iaload, 1) := by decide +kernel
theorem dX6_planned_59 : decode cX6_planned 59 = .ok (.ireturn, 1) := by decide +kernel
theorem dX6_planned_60 : decode cX6_planned 60 = .ok (.aload_n 0, 1) := by decide +kernel
theorem dX6_planned_61 : decode cX6_planned 61 = .ok (.getfield 26, 3) := by decide +kernel
theorem dX6_planned_64 : decode cX6_planned 64 = .ok (.getfield 217, 3) := by decide +kernel
theorem dX6_planned_67 : decode cX6_planned 67 = .ok (.iload_n 1, 1) := by decide +kernel
theorem dX6_planned_68 : decode cX6_planned 68 = .ok (.iaload, 1) := by decide +kernel
theorem dX6_planned_69 : decode cX6_planned 69 = .ok (.ireturn, 1) := by decide +kernel
theorem dX6_exerciseIn_0 : decode cX6_exerciseIn 0 = .ok (.aload_n 0, 1) := by decide +kernel
theorem dX6_exerciseIn_1 : decode cX6_exerciseIn 1 = .ok (.iload_n 1, 1) := by decide +kernel
theorem dX6_exerciseIn_2 : decode cX6_exerciseIn 2 = .ok (.invokevirtual 134, 3) := by decide +kernel
theorem dX6_exerciseIn_5 : decode cX6_exerciseIn 5 = .ok (.pop, 1) := by decide +kernel
theorem dX6_exerciseIn_6 : decode cX6_exerciseIn 6 = .ok (.aload_n 0, 1) := by decide +kernel
theorem dX6_exerciseIn_7 : decode cX6_exerciseIn 7 = .ok (.getfield 26, 3) := by decide +kernel
theorem dX6_exerciseIn_10 : decode cX6_exerciseIn 10 = .ok (.getfield 131, 3) := by decide +kernel
theorem dX6_exerciseIn_13 : decode cX6_exerciseIn 13 = .ok (.iload_n 1, 1) := by decide +kernel
theorem dX6_exerciseIn_14 : decode cX6_exerciseIn 14 = .ok (.iadd, 1) := by decide +kernel
theorem dX6_exerciseIn_15 : decode cX6_exerciseIn 15 = .ok (.aload_n 0, 1) := by decide +kernel
theorem dX6_exerciseIn_16 : decode cX6_exerciseIn 16 = .ok (.getfield 26, 3) := by decide +kernel
theorem dX6_exerciseIn_19 : decode cX6_exerciseIn 19 = .ok (.getfield 100, 3) := by decide +kernel
theorem dX6_exerciseIn_22 : decode cX6_exerciseIn 22 = .ok (.isub, 1) := by decide +kernel
theorem dX6_exerciseIn_23 : decode cX6_exerciseIn 23 = .ok (.iconst 1, 1) := by decide +kernel
theorem dX6_exerciseIn_24 : decode cX6_exerciseIn 24 = .ok (.isub, 1) := by decide +kernel
theorem dX6_exerciseIn_25 : decode cX6_exerciseIn 25 = .ok (.sipush 336, 3) := by decide +kernel
theorem dX6_exerciseIn_28 : decode cX6_exerciseIn 28 = .ok (.invokestatic 238, 3) := by decide +kernel
theorem dX6_exerciseIn_31 : decode cX6_exerciseIn 31 = .ok (.iconst 1, 1) := by decide +kernel
theorem dX6_exerciseIn_32 : decode cX6_exerciseIn 32 = .ok (.iadd, 1) := by decide +kernel
theorem dX6_exerciseIn_33 : decode cX6_exerciseIn 33 = .ok (.ireturn, 1) := by decide +kernel
theorem dX6_warmth_0 : decode cX6_warmth 0 = .ok (.aload_n 0, 1) := by decide +kernel
theorem dX6_warmth_1 : decode cX6_warmth 1 = .ok (.iload_n 1, 1) := by decide +kernel
theorem dX6_warmth_2 : decode cX6_warmth 2 = .ok (.invokevirtual 134, 3) := by decide +kernel
theorem dX6_warmth_5 : decode cX6_warmth 5 = .ok (.astore_n 2, 1) := by decide +kernel
theorem dX6_warmth_6 : decode cX6_warmth 6 = .ok (.aload_n 0, 1) := by decide +kernel
theorem dX6_warmth_7 : decode cX6_warmth 7 = .ok (.getfield 26, 3) := by decide +kernel
theorem dX6_warmth_10 : decode cX6_warmth 10 = .ok (.getfield 100, 3) := by decide +kernel
theorem dX6_warmth_13 : decode cX6_warmth 13 = .ok (.ifCond .ne 5, 3) := by decide +kernel
theorem dX6_warmth_16 : decode cX6_warmth 16 = .ok (.fconst 0, 1) := by decide +kernel
theorem dX6_warmth_17 : decode cX6_warmth 17 = .ok (.freturn, 1) := by decide +kernel
theorem dX6_warmth_18 : decode cX6_warmth 18 = .ok (.aload_n 2, 1) := by decide +kernel
theorem dX6_warmth_19 : decode cX6_warmth 19 = .ok (.getfield 171, 3) := by decide +kernel
theorem dX6_warmth_22 : decode cX6_warmth 22 = .ok (.i2f, 1) := by decide +kernel
theorem dX6_warmth_23 : decode cX6_warmth 23 = .ok (.ldc 254, 2) := by decide +kernel
theorem dX6_warmth_25 : decode cX6_warmth 25 = .ok (.aload_n 0, 1) := by decide +kernel
theorem dX6_warmth_26 : decode cX6_warmth 26 = .ok (.getfield 26, 3) := by decide +kernel
theorem dX6_warmth_29 : decode cX6_warmth 29 = .ok (.getfield 100, 3) := by decide +kernel
theorem dX6_warmth_32 : decode cX6_warmth 32 = .ok (.i2f, 1) := by decide +kernel
theorem dX6_warmth_33 : decode cX6_warmth 33 = .ok (.fmul, 1) := by decide +kernel
theorem dX6_warmth_34 : decode cX6_warmth 34 = .ok (.fdiv, 1) := by decide +kernel
theorem dX6_warmth_35 : decode cX6_warmth 35 = .ok (.freturn, 1) := by decide +kernel
theorem dX6_reckoned_0 : decode cX6_reckoned 0 = .ok (.aload_n 0, 1) := by decide +kernel
theorem dX6_reckoned_1 : decode cX6_reckoned 1 = .ok (.iload_n 1, 1) := by decide +kernel
theorem dX6_reckoned_2 : decode cX6_reckoned 2 = .ok (.invokevirtual 134, 3) := by decide +kernel
theorem dX6_reckoned_5 : decode cX6_reckoned 5 = .ok (.getfield 146, 3) := by decide +kernel
theorem dX6_reckoned_8 : decode cX6_reckoned 8 = .ok (.ireturn, 1) := by decide +kernel
theorem dX6_tick_0 : decode cX6_tick 0 = .ok (.iload_n 1, 1) := by decide +kernel
theorem dX6_tick_1 : decode cX6_tick 1 = .ok (.iconst 1, 1) := by decide +kernel
theorem dX6_tick_2 : decode cX6_tick 2 = .ok (.sipush 200, 3) := by decide +kernel
theorem dX6_tick_5 : decode cX6_tick 5 = .ok (.invokestatic 62, 3) := by decide +kernel
theorem dX6_tick_8 : decode cX6_tick 8 = .ok (.aload_n 0, 1) := by decide +kernel
theorem dX6_tick_9 : decode cX6_tick 9 = .ok (.invokevirtual 79, 3) := by decide +kernel
theorem dX6_tick_12 : decode cX6_tick 12 = .ok (.iconst 0, 1) := by decide +kernel
theorem dX6_tick_13 : decode cX6_tick 13 = .ok (.istore_n 2, 1) := by decide +kernel
theorem dX6_tick_14 : decode cX6_tick 14 = .ok (.iconst 0, 1) := by decide +kernel
theorem dX6_tick_15 : decode cX6_tick 15 = .ok (.istore_n 3, 1) := by decide +kernel
theorem dX6_tick_16 : decode cX6_tick 16 = .ok (.iload_n 3, 1) := by decide +kernel
theorem dX6_tick_17 : decode cX6_tick 17 = .ok (.iload_n 1, 1) := by decide +kernel
theorem dX6_tick_18 : decode cX6_tick 18 = .ok (.if_icmp .ge 19, 3) := by decide +kernel
theorem dX6_tick_21 : decode cX6_tick 21 = .ok (.iload_n 2, 1) := by decide +kernel
theorem dX6_tick_22 : decode cX6_tick 22 = .ok (.aload_n 0, 1) := by decide +kernel
theorem dX6_tick_23 : decode cX6_tick 23 = .ok (.getfield 26, 3) := by decide +kernel
theorem dX6_tick_26 : decode cX6_tick 26 = .ok (.invokevirtual 248, 3) := by decide +kernel
theorem dX6_tick_29 : decode cX6_tick 29 = .ok (.iadd, 1) := by decide +kernel
theorem dX6_tick_30 : decode cX6_tick 30 = .ok (.istore_n 2, 1) := by decide +kernel
theorem dX6_tick_31 : decode cX6_tick 31 = .ok (.iinc 3 1, 3) := by decide +kernel
theorem dX6_tick_34 : decode cX6_tick 34 = .ok (.goto (-18), 3) := by decide +kernel
theorem dX6_tick_37 : decode cX6_tick 37 = .ok (.iload_n 2, 1) := by decide +kernel
theorem dX6_tick_38 : decode cX6_tick 38 = .ok (.ireturn, 1) := by decide +kernel
theorem dX6_setProgram_0 : decode cX6_setProgram 0 = .ok (.aload_n 0, 1) := by decide +kernel
theorem dX6_setProgram_1 : decode cX6_setProgram 1 = .ok (.iload_n 1, 1) := by decide +kernel
theorem dX6_setProgram_2 : decode cX6_setProgram 2 = .ok (.invokevirtual 134, 3) := by decide +kernel
theorem dX6_setProgram_5 : decode cX6_setProgram 5 = .ok (.astore 4, 2) := by decide +kernel
theorem dX6_setProgram_7 : decode cX6_setProgram 7 = .ok (.iload_n 2, 1) := by decide +kernel
theorem dX6_setProgram_8 : decode cX6_setProgram 8 = .ok (.iconst 0, 1) := by decide +kernel
theorem dX6_setProgram_9 : decode cX6_setProgram 9 = .ok (.bipush 47, 2) := by decide +kernel
theorem dX6_setProgram_11 : decode cX6_setProgram 11 = .ok (.invokestatic 62, 3) := by decide +kernel
theorem dX6_setProgram_14 : decode cX6_setProgram 14 = .ok (.iload_n 3, 1) := by decide +kernel
theorem dX6_setProgram_15 : decode cX6_setProgram 15 = .ok (.bipush 50, 2) := by decide +kernel
theorem dX6_setProgram_17 : decode cX6_setProgram 17 = .ok (.sipush 300, 3) := by decide +kernel
theorem dX6_setProgram_20 : decode cX6_setProgram 20 = .ok (.invokestatic 62, 3) := by decide +kernel
theorem dX6_setProgram_23 : decode cX6_setProgram 23 = .ok (.aload_n 0, 1) := by decide +kernel
theorem dX6_setProgram_24 : decode cX6_setProgram 24 = .ok (.invokevirtual 79, 3) := by decide +kernel
theorem dX6_setProgram_27 : decode cX6_setProgram 27 = .ok (.aload 4, 2) := by decide +kernel
theorem dX6_setProgram_29 : decode cX6_setProgram 29 = .ok (.iload_n 2, 1) := by decide +kernel
theorem dX6_setProgram_30 : decode cX6_setProgram 30 = .ok (.invokevirtual 255, 3) := by decide +kernel
theorem dX6_setProgram_33 : decode cX6_setProgram 33 = .ok (.istore 5, 2) := by decide +kernel
theorem dX6_setProgram_35 : decode cX6_setProgram 35 = .ok (.aload 4, 2) := by decide +kernel
theorem dX6_setProgram_37 : decode cX6_setProgram 37 = .ok (.iload_n 2, 1) := by decide +kernel
theorem dX6_setProgram_38 : decode cX6_setProgram 38 = .ok (.iload_n 3, 1) := by decide +kernel
theorem dX6_setProgram_39 : decode cX6_setProgram 39 = .ok (.invokevirtual 258, 3) := by decide +kernel
theorem dX6_setProgram_42 : decode cX6_setProgram 42 = .ok (.iload 5, 2) := by decide +kernel
theorem dX6_setProgram_44 : decode cX6_setProgram 44 = .ok (.ireturn, 1) := by decide +kernel
theorem dX6_clearProgram_0 : decode cX6_clearProgram 0 = .ok (.aload_n 0, 1) := by decide +kernel
theorem dX6_clearProgram_1 : decode cX6_clearProgram 1 = .ok (.iload_n 1, 1) := by decide +kernel
theorem dX6_clearProgram_2 : decode cX6_clearProgram 2 = .ok (.invokevirtual 134, 3) := by decide +kernel
theorem dX6_clearProgram_5 : decode cX6_clearProgram 5 = .ok (.astore_n 3, 1) := by decide +kernel
theorem dX6_clearProgram_6 : decode cX6_clearProgram 6 = .ok (.iload_n 2, 1) := by decide +kernel
theorem dX6_clearProgram_7 : decode cX6_clearProgram 7 = .ok (.iconst 0, 1) := by decide +kernel
theorem dX6_clearProgram_8 : decode cX6_clearProgram 8 = .ok (.bipush 47, 2) := by decide +kernel
theorem dX6_clearProgram_10 : decode cX6_clearProgram 10 = .ok (.invokestatic 62, 3) := by decide +kernel
theorem dX6_clearProgram_13 : decode cX6_clearProgram 13 = .ok (.aload_n 3, 1) := by decide +kernel
theorem dX6_clearProgram_14 : decode cX6_clearProgram 14 = .ok (.iload_n 2, 1) := by decide +kernel
theorem dX6_clearProgram_15 : decode cX6_clearProgram 15 = .ok (.invokevirtual 255, 3) := by decide +kernel
theorem dX6_clearProgram_18 : decode cX6_clearProgram 18 = .ok (.iconst (-1), 1) := by decide +kernel
theorem dX6_clearProgram_19 : decode cX6_clearProgram 19 = .ok (.if_icmp .ne 14, 3) := by decide +kernel
theorem dX6_clearProgram_22 : decode cX6_clearProgram 22 = .ok (.new 189, 3) := by decide +kernel
theorem dX6_clearProgram_25 : decode cX6_clearProgram 25 = .ok (.dup, 1) := by decide +kernel
theorem dX6_clearProgram_26 : decode cX6_clearProgram 26 = .ok (.ldc_w 261, 3) := by decide +kernel
theorem dX6_clearProgram_29 : decode cX6_clearProgram 29 = .ok (.invokespecial 193, 3) := by decide +kernel
theorem dX6_clearProgram_32 : decode cX6_clearProgram 32 = .ok (.athrow, 1) := by decide +kernel
theorem dX6_clearProgram_33 : decode cX6_clearProgram 33 = .ok (.aload_n 0, 1) := by decide +kernel
theorem dX6_clearProgram_34 : decode cX6_clearProgram 34 = .ok (.invokevirtual 79, 3) := by decide +kernel
theorem dX6_clearProgram_37 : decode cX6_clearProgram 37 = .ok (.aload_n 3, 1) := by decide +kernel
theorem dX6_clearProgram_38 : decode cX6_clearProgram 38 = .ok (.aload_n 3, 1) := by decide +kernel
theorem dX6_clearProgram_39 : decode cX6_clearProgram 39 = .ok (.iload_n 2, 1) := by decide +kernel
theorem dX6_clearProgram_40 : decode cX6_clearProgram 40 = .ok (.invokevirtual 263, 3) := by decide +kernel
theorem dX6_clearProgram_43 : decode cX6_clearProgram 43 = .ok (.invokevirtual 266, 3) := by decide +kernel
theorem dX6_clearProgram_46 : decode cX6_clearProgram 46 = .ok (.aload_n 3, 1) := by decide +kernel
theorem dX6_clearProgram_47 : decode cX6_clearProgram 47 = .ok (.getfield 186, 3) := by decide +kernel
theorem dX6_clearProgram_50 : decode cX6_clearProgram 50 = .ok (.ireturn, 1) := by decide +kernel
theorem dX6_override_0 : decode cX6_override 0 = .ok (.aload_n 0, 1) := by decide +kernel
theorem dX6_override_1 : decode cX6_override 1 = .ok (.iload_n 1, 1) := by decide +kernel
theorem dX6_override_2 : decode cX6_override 2 = .ok (.invokevirtual 134, 3) := by decide +kernel
theorem dX6_override_5 : decode cX6_override 5 = .ok (.astore 4, 2) := by decide +kernel
theorem dX6_override_7 : decode cX6_override 7 = .ok (.iload_n 2, 1) := by decide +kernel
theorem dX6_override_8 : decode cX6_override 8 = .ok (.bipush 50, 2) := by decide +kernel
theorem dX6_override_10 : decode cX6_override 10 = .ok (.sipush 300, 3) := by decide +kernel
theorem dX6_override_13 : decode cX6_override 13 = .ok (.invokestatic 62, 3) := by decide +kernel
theorem dX6_override_16 : decode cX6_override 16 = .ok (.iload_n 3, 1) := by decide +kernel
theorem dX6_override_17 : decode cX6_override 17 = .ok (.iconst 0, 1) := by decide +kernel
theorem dX6_override_18 : decode cX6_override 18 = .ok (.sipush 500, 3) := by decide +kernel
theorem dX6_override_21 : decode cX6_override 21 = .ok (.invokestatic 62, 3) := by decide +kernel
theorem dX6_override_24 : decode cX6_override 24 = .ok (.aload_n 0, 1) := by decide +kernel
theorem dX6_override_25 : decode cX6_override 25 = .ok (.invokevirtual 79, 3) := by decide +kernel
theorem dX6_override_28 : decode cX6_override 28 = .ok (.aload 4, 2) := by decide +kernel
theorem dX6_override_30 : decode cX6_override 30 = .ok (.iload_n 2, 1) := by decide +kernel
theorem dX6_override_31 : decode cX6_override 31 = .ok (.putfield 168, 3) := by decide +kernel
theorem dX6_override_34 : decode cX6_override 34 = .ok (.aload 4, 2) := by decide +kernel
theorem dX6_override_36 : decode cX6_override 36 = .ok (.iload_n 3, 1) := by decide +kernel
theorem dX6_override_37 : decode cX6_override 37 = .ok (.putfield 165, 3) := by decide +kernel
theorem dX6_override_40 : decode cX6_override 40 = .ok (.aload_n 0, 1) := by decide +kernel
theorem dX6_override_41 : decode cX6_override 41 = .ok (.getfield 26, 3) := by decide +kernel
theorem dX6_override_44 : decode cX6_override 44 = .ok (.aload 4, 2) := by decide +kernel
theorem dX6_override_46 : decode cX6_override 46 = .ok (.invokevirtual 178, 3) := by decide +kernel
theorem dX6_override_49 : decode cX6_override 49 = .ok (.ireturn, 1) := by decide +kernel
theorem dX6_setWindow_0 : decode cX6_setWindow 0 = .ok (.aload_n 0, 1) := by decide +kernel
theorem dX6_setWindow_1 : decode cX6_setWindow 1 = .ok (.iload_n 1, 1) := by decide +kernel
theorem dX6_setWindow_2 : decode cX6_setWindow 2 = .ok (.invokevirtual 134, 3) := by decide +kernel
theorem dX6_setWindow_5 : decode cX6_setWindow 5 = .ok (.astore_n 3, 1) := by decide +kernel
theorem dX6_setWindow_6 : decode cX6_setWindow 6 = .ok (.aload_n 0, 1) := by decide +kernel
theorem dX6_setWindow_7 : decode cX6_setWindow 7 = .ok (.invokevirtual 79, 3) := by decide +kernel
theorem dX6_setWindow_10 : decode cX6_setWindow 10 = .ok (.aload_n 3, 1) := by decide +kernel
theorem dX6_setWindow_11 : decode cX6_setWindow 11 = .ok (.getfield 155, 3) := by decide +kernel
theorem dX6_setWindow_14 : decode cX6_setWindow 14 = .ok (.istore 4, 2) := by decide +kernel
theorem dX6_setWindow_16 : decode cX6_setWindow 16 = .ok (.aload_n 3, 1) := by decide +kernel
theorem dX6_setWindow_17 : decode cX6_setWindow 17 = .ok (.iload_n 2, 1) := by decide +kernel
theorem dX6_setWindow_18 : decode cX6_setWindow 18 = .ok (.putfield 155, 3) := by decide +kernel
theorem dX6_setWindow_21 : decode cX6_setWindow 21 = .ok (.iload 4, 2) := by decide +kernel
theorem dX6_setWindow_23 : decode cX6_setWindow 23 = .ok (.ireturn, 1) := by decide +kernel
theorem dX6_setPresent_0 : decode cX6_setPresent 0 = .ok (.aload_n 0, 1) := by decide +kernel
theorem dX6_setPresent_1 : decode cX6_setPresent 1 = .ok (.iload_n 1, 1) := by decide +kernel
theorem dX6_setPresent_2 : decode cX6_setPresent 2 = .ok (.invokevirtual 134, 3) := by decide +kernel
theorem dX6_setPresent_5 : decode cX6_setPresent 5 = .ok (.astore_n 3, 1) := by decide +kernel
theorem dX6_setPresent_6 : decode cX6_setPresent 6 = .ok (.aload_n 0, 1) := by decide +kernel
theorem dX6_setPresent_7 : decode cX6_setPresent 7 = .ok (.invokevirtual 79, 3) := by decide +kernel
theorem dX6_setPresent_10 : decode cX6_setPresent 10 = .ok (.aload_n 3, 1) := by decide +kernel
theorem dX6_setPresent_11 : decode cX6_setPresent 11 = .ok (.iload_n 2, 1) := by decide +kernel
theorem dX6_setPresent_12 : decode cX6_setPresent 12 = .ok (.putfield 159, 3) := by decide +kernel
theorem dX6_setPresent_15 : decode cX6_setPresent 15 = .ok (.aload_n 0, 1) := by decide +kernel
theorem dX6_setPresent_16 : decode cX6_setPresent 16 = .ok (.getfield 26, 3) := by decide +kernel
theorem dX6_setPresent_19 : decode cX6_setPresent 19 = .ok (.aload_n 3, 1) := by decide +kernel
theorem dX6_setPresent_20 : decode cX6_setPresent 20 = .ok (.invokevirtual 178, 3) := by decide +kernel
theorem dX6_setPresent_23 : decode cX6_setPresent 23 = .ok (.ireturn, 1) := by decide +kernel
theorem dX6_plan_0 : decode cX6_plan 0 = .ok (.aload_n 0, 1) := by decide +kernel
theorem dX6_plan_1 : decode cX6_plan 1 = .ok (.iload_n 2, 1) := by decide +kernel
theorem dX6_plan_2 : decode cX6_plan 2 = .ok (.invokevirtual 134, 3) := by decide +kernel
theorem dX6_plan_5 : decode cX6_plan 5 = .ok (.pop, 1) := by decide +kernel
theorem dX6_plan_6 : decode cX6_plan 6 = .ok (.iload_n 1, 1) := by decide +kernel
theorem dX6_plan_7 : decode cX6_plan 7 = .ok (.aload_n 0, 1) := by decide +kernel
theorem dX6_plan_8 : decode cX6_plan 8 = .ok (.getfield 26, 3) := by decide +kernel
theorem dX6_plan_11 : decode cX6_plan 11 = .ok (.getfield 100, 3) := by decide +kernel
theorem dX6_plan_14 : decode cX6_plan 14 = .ok (.iconst 1, 1) := by decide +kernel
theorem dX6_plan_15 : decode cX6_plan 15 = .ok (.iadd, 1) := by decide +kernel
theorem dX6_plan_16 : decode cX6_plan 16 = .ok (.aload_n 0, 1) := by decide +kernel
theorem dX6_plan_17 : decode cX6_plan 17 = .ok (.getfield 26, 3) := by decide +kernel
theorem dX6_plan_20 : decode cX6_plan 20 = .ok (.getfield 100, 3) := by decide +kernel
theorem dX6_plan_23 : decode cX6_plan 23 = .ok (.sipush 9999, 3) := by decide +kernel
theorem dX6_plan_26 : decode cX6_plan 26 = .ok (.iadd, 1) := by decide +kernel
theorem dX6_plan_27 : decode cX6_plan 27 = .ok (.invokestatic 62, 3) := by decide +kernel
theorem dX6_plan_30 : decode cX6_plan 30 = .ok (.iload_n 3, 1) := by decide +kernel
theorem dX6_plan_31 : decode cX6_plan 31 = .ok (.iconst 0, 1) := by decide +kernel
theorem dX6_plan_32 : decode cX6_plan 32 = .ok (.iconst 3, 1) := by decide +kernel
theorem dX6_plan_33 : decode cX6_plan 33 = .ok (.invokestatic 62, 3) := by decide +kernel
theorem dX6_plan_36 : decode cX6_plan 36 = .ok (.aload_n 0, 1) := by decide +kernel
theorem dX6_plan_37 : decode cX6_plan 37 = .ok (.getfield 26, 3) := by decide +kernel
theorem dX6_plan_40 : decode cX6_plan 40 = .ok (.getfield 110, 3) := by decide +kernel
theorem dX6_plan_43 : decode cX6_plan 43 = .ok (.bipush 20, 2) := by decide +kernel
theorem dX6_plan_45 : decode cX6_plan 45 = .ok (.if_icmp .lt 14, 3) := by decide +kernel
theorem dX6_plan_48 : decode cX6_plan 48 = .ok (.new 51, 3) := by decide +kernel
theorem dX6_plan_51 : decode cX6_plan 51 = .ok (.dup, 1) := by decide +kernel
theorem dX6_plan_52 : decode cX6_plan 52 = .ok (.ldc_w 269, 3) := by decide +kernel
theorem dX6_plan_55 : decode cX6_plan 55 = .ok (.invokespecial 55, 3) := by decide +kernel
theorem dX6_plan_58 : decode cX6_plan 58 = .ok (.athrow, 1) := by decide +kernel
theorem dX6_plan_59 : decode cX6_plan 59 = .ok (.aload_n 0, 1) := by decide +kernel
theorem dX6_plan_60 : decode cX6_plan 60 = .ok (.invokevirtual 79, 3) := by decide +kernel
theorem dX6_plan_63 : decode cX6_plan 63 = .ok (.aload_n 0, 1) := by decide +kernel
theorem dX6_plan_64 : decode cX6_plan 64 = .ok (.getfield 26, 3) := by decide +kernel
theorem dX6_plan_67 : decode cX6_plan 67 = .ok (.iload_n 1, 1) := by decide +kernel
theorem dX6_plan_68 : decode cX6_plan 68 = .ok (.iload_n 2, 1) := by decide +kernel
theorem dX6_plan_69 : decode cX6_plan 69 = .ok (.iload_n 3, 1) := by decide +kernel
theorem dX6_plan_70 : decode cX6_plan 70 = .ok (.invokevirtual 271, 3) := by decide +kernel
theorem dX6_plan_73 : decode cX6_plan 73 = .ok (.ireturn, 1) := by decide +kernel
theorem dX6_dropPlan_0 : decode cX6_dropPlan 0 = .ok (.aload_n 0, 1) := by decide +kernel
theorem dX6_dropPlan_1 : decode cX6_dropPlan 1 = .ok (.iload_n 1, 1) := by decide +kernel
theorem dX6_dropPlan_2 : decode cX6_dropPlan 2 = .ok (.invokevirtual 208, 3) := by decide +kernel
theorem dX6_dropPlan_5 : decode cX6_dropPlan 5 = .ok (.aload_n 0, 1) := by decide +kernel
theorem dX6_dropPlan_6 : decode cX6_dropPlan 6 = .ok (.invokevirtual 79, 3) := by decide +kernel
theorem dX6_dropPlan_9 : decode cX6_dropPlan 9 = .ok (.aload_n 0, 1) := by decide +kernel
theorem dX6_dropPlan_10 : decode cX6_dropPlan 10 = .ok (.getfield 26, 3) := by decide +kernel
theorem dX6_dropPlan_13 : decode cX6_dropPlan 13 = .ok (.iload_n 1, 1) := by decide +kernel
theorem dX6_dropPlan_14 : decode cX6_dropPlan 14 = .ok (.iconst 1, 1) := by decide +kernel
theorem dX6_dropPlan_15 : decode cX6_dropPlan 15 = .ok (.invokevirtual 275, 3) := by decide +kernel
theorem dX6_dropPlan_18 : decode cX6_dropPlan 18 = .ok (.aload_n 0, 1) := by decide +kernel
theorem dX6_dropPlan_19 : decode cX6_dropPlan 19 = .ok (.getfield 26, 3) := by decide +kernel
theorem dX6_dropPlan_22 : decode cX6_dropPlan 22 = .ok (.getfield 110, 3) := by decide +kernel
theorem dX6_dropPlan_25 : decode cX6_dropPlan 25 = .ok (.ireturn, 1) := by decide +kernel
theorem dX6_setOutside_0 : decode cX6_setOutside 0 = .ok (.iload_n 1, 1) := by decide +kernel
theorem dX6_setOutside_1 : decode cX6_setOutside 1 = .ok (.sipush (-300), 3) := by decide +kernel
theorem dX6_setOutside_4 : decode cX6_setOutside 4 = .ok (.sipush 400, 3) := by decide +kernel
theorem dX6_setOutside_7 : decode cX6_setOutside 7 = .ok (.invokestatic 62, 3) := by decide +kernel
theorem dX6_setOutside_10 : decode cX6_setOutside 10 = .ok (.aload_n 0, 1) := by decide +kernel
theorem dX6_setOutside_11 : decode cX6_setOutside 11 = .ok (.invokevirtual 79, 3) := by decide +kernel
theorem dX6_setOutside_14 : decode cX6_setOutside 14 = .ok (.aload_n 0, 1) := by decide +kernel
theorem dX6_setOutside_15 : decode cX6_setOutside 15 = .ok (.getfield 26, 3) := by decide +kernel
theorem dX6_setOutside_18 : decode cX6_setOutside 18 = .ok (.getfield 107, 3) := by decide +kernel
theorem dX6_setOutside_21 : decode cX6_setOutside 21 = .ok (.istore_n 2, 1) := by decide +kernel
theorem dX6_setOutside_22 : decode cX6_setOutside 22 = .ok (.aload_n 0, 1) := by decide +kernel
theorem dX6_setOutside_23 : decode cX6_setOutside 23 = .ok (.getfield 26, 3) := by decide +kernel
theorem dX6_setOutside_26 : decode cX6_setOutside 26 = .ok (.iload_n 1, 1) := by decide +kernel
theorem dX6_setOutside_27 : decode cX6_setOutside 27 = .ok (.putfield 107, 3) := by decide +kernel
theorem dX6_setOutside_30 : decode cX6_setOutside 30 = .ok (.iload_n 2, 1) := by decide +kernel
theorem dX6_setOutside_31 : decode cX6_setOutside 31 = .ok (.ireturn, 1) := by decide +kernel
theorem dX6_setControl_0 : decode cX6_setControl 0 = .ok (.iload_n 1, 1) := by decide +kernel
theorem dX6_setControl_1 : decode cX6_setControl 1 = .ok (.iconst 0, 1) := by decide +kernel
theorem dX6_setControl_2 : decode cX6_setControl 2 = .ok (.bipush 50, 2) := by decide +kernel
theorem dX6_setControl_4 : decode cX6_setControl 4 = .ok (.invokestatic 62, 3) := by decide +kernel
theorem dX6_setControl_7 : decode cX6_setControl 7 = .ok (.iload_n 2, 1) := by decide +kernel
theorem dX6_setControl_8 : decode cX6_setControl 8 = .ok (.iconst 1, 1) := by decide +kernel
theorem dX6_setControl_9 : decode cX6_setControl 9 = .ok (.bipush 50, 2) := by decide +kernel
theorem dX6_setControl_11 : decode cX6_setControl 11 = .ok (.invokestatic 62, 3) := by decide +kernel
theorem dX6_setControl_14 : decode cX6_setControl 14 = .ok (.iload_n 3, 1) := by decide +kernel
theorem dX6_setControl_15 : decode cX6_setControl 15 = .ok (.iconst 1, 1) := by decide +kernel
theorem dX6_setControl_16 : decode cX6_setControl 16 = .ok (.bipush 100, 2) := by decide +kernel
theorem dX6_setControl_18 : decode cX6_setControl 18 = .ok (.invokestatic 62, 3) := by decide +kernel
theorem dX6_setControl_21 : decode cX6_setControl 21 = .ok (.aload_n 0, 1) := by decide +kernel
theorem dX6_setControl_22 : decode cX6_setControl 22 = .ok (.invokevirtual 79, 3) := by decide +kernel
theorem dX6_setControl_25 : decode cX6_setControl 25 = .ok (.ldc_w 278, 3) := by decide +kernel
theorem dX6_setControl_28 : decode cX6_setControl 28 = .ok (.aload_n 0, 1) := by decide +kernel
theorem dX6_setControl_29 : decode cX6_setControl 29 = .ok (.getfield 26, 3) := by decide +kernel
theorem dX6_setControl_32 : decode cX6_setControl 32 = .ok (.getfield 122, 3) := by decide +kernel
theorem dX6_setControl_35 : decode cX6_setControl 35 = .ok (.imul, 1) := by decide +kernel
theorem dX6_setControl_36 : decode cX6_setControl 36 = .ok (.sipush 1000, 3) := by decide +kernel
theorem dX6_setControl_39 : decode cX6_setControl 39 = .ok (.aload_n 0, 1) := by decide +kernel
theorem dX6_setControl_40 : decode cX6_setControl 40 = .ok (.getfield 26, 3) := by decide +kernel
theorem dX6_setControl_43 : decode cX6_setControl 43 = .ok (.getfield 125, 3) := by decide +kernel
theorem dX6_setControl_46 : decode cX6_setControl 46 = .ok (.imul, 1) := by decide +kernel
theorem dX6_setControl_47 : decode cX6_setControl 47 = .ok (.iadd, 1) := by decide +kernel
theorem dX6_setControl_48 : decode cX6_setControl 48 = .ok (.aload_n 0, 1) := by decide +kernel
theorem dX6_setControl_49 : decode cX6_setControl 49 = .ok (.getfield 26, 3) := by decide +kernel
theorem dX6_setControl_52 : decode cX6_setControl 52 = .ok (.getfield 128, 3) := by decide +kernel
theorem dX6_setControl_55 : decode cX6_setControl 55 = .ok (.iadd, 1) := by decide +kernel
theorem dX6_setControl_56 : decode cX6_setControl 56 = .ok (.istore 4, 2) := by decide +kernel
theorem dX6_setControl_58 : decode cX6_setControl 58 = .ok (.aload_n 0, 1) := by decide +kernel
theorem dX6_setControl_59 : decode cX6_setControl 59 = .ok (.getfield 26, 3) := by decide +kernel
theorem dX6_setControl_62 : decode cX6_setControl 62 = .ok (.iload_n 1, 1) := by decide +kernel
theorem dX6_setControl_63 : decode cX6_setControl 63 = .ok (.putfield 122, 3) := by decide +kernel
theorem dX6_setControl_66 : decode cX6_setControl 66 = .ok (.aload_n 0, 1) := by decide +kernel
theorem dX6_setControl_67 : decode cX6_setControl 67 = .ok (.getfield 26, 3) := by decide +kernel
theorem dX6_setControl_70 : decode cX6_setControl 70 = .ok (.iload_n 2, 1) := by decide +kernel
theorem dX6_setControl_71 : decode cX6_setControl 71 = .ok (.putfield 125, 3) := by decide +kernel
theorem dX6_setControl_74 : decode cX6_setControl 74 = .ok (.aload_n 0, 1) := by decide +kernel
theorem dX6_setControl_75 : decode cX6_setControl 75 = .ok (.getfield 26, 3) := by decide +kernel
theorem dX6_setControl_78 : decode cX6_setControl 78 = .ok (.iload_n 3, 1) := by decide +kernel
theorem dX6_setControl_79 : decode cX6_setControl 79 = .ok (.putfield 128, 3) := by decide +kernel
theorem dX6_setControl_82 : decode cX6_setControl 82 = .ok (.iload 4, 2) := by decide +kernel
theorem dX6_setControl_84 : decode cX6_setControl 84 = .ok (.ireturn, 1) := by decide +kernel
theorem dX6_newBattery_0 : decode cX6_newBattery 0 = .ok (.aload_n 0, 1) := by decide +kernel
theorem dX6_newBattery_1 : decode cX6_newBattery 1 = .ok (.iload_n 1, 1) := by decide +kernel
theorem dX6_newBattery_2 : decode cX6_newBattery 2 = .ok (.invokevirtual 134, 3) := by decide +kernel
theorem dX6_newBattery_5 : decode cX6_newBattery 5 = .ok (.astore_n 3, 1) := by decide +kernel
theorem dX6_newBattery_6 : decode cX6_newBattery 6 = .ok (.iload_n 2, 1) := by decide +kernel
theorem dX6_newBattery_7 : decode cX6_newBattery 7 = .ok (.iconst 1, 1) := by decide +kernel
theorem dX6_newBattery_8 : decode cX6_newBattery 8 = .ok (.sipush 9999, 3) := by decide +kernel
theorem dX6_newBattery_11 : decode cX6_newBattery 11 = .ok (.invokestatic 62, 3) := by decide +kernel
theorem dX6_newBattery_14 : decode cX6_newBattery 14 = .ok (.aload_n 0, 1) := by decide +kernel
theorem dX6_newBattery_15 : decode cX6_newBattery 15 = .ok (.invokevirtual 79, 3) := by decide +kernel
theorem dX6_newBattery_18 : decode cX6_newBattery 18 = .ok (.aload_n 3, 1) := by decide +kernel
theorem dX6_newBattery_19 : decode cX6_newBattery 19 = .ok (.getfield 146, 3) := by decide +kernel
theorem dX6_newBattery_22 : decode cX6_newBattery 22 = .ok (.istore 4, 2) := by decide +kernel
theorem dX6_newBattery_24 : decode cX6_newBattery 24 = .ok (.aload_n 3, 1) := by decide +kernel
theorem dX6_newBattery_25 : decode cX6_newBattery 25 = .ok (.iload_n 2, 1) := by decide +kernel
theorem dX6_newBattery_26 : decode cX6_newBattery 26 = .ok (.putfield 146, 3) := by decide +kernel
theorem dX6_newBattery_29 : decode cX6_newBattery 29 = .ok (.iload 4, 2) := by decide +kernel
theorem dX6_newBattery_31 : decode cX6_newBattery 31 = .ok (.ireturn, 1) := by decide +kernel
theorem dX6_turn_0 : decode cX6_turn 0 = .ok (.aload_n 0, 1) := by decide +kernel
theorem dX6_turn_1 : decode cX6_turn 1 = .ok (.iload_n 1, 1) := by decide +kernel
theorem dX6_turn_2 : decode cX6_turn 2 = .ok (.invokevirtual 134, 3) := by decide +kernel
theorem dX6_turn_5 : decode cX6_turn 5 = .ok (.astore_n 3, 1) := by decide +kernel
theorem dX6_turn_6 : decode cX6_turn 6 = .ok (.iload_n 2, 1) := by decide +kernel
theorem dX6_turn_7 : decode cX6_turn 7 = .ok (.iconst 0, 1) := by decide +kernel
theorem dX6_turn_8 : decode cX6_turn 8 = .ok (.bipush 100, 2) := by decide +kernel
theorem dX6_turn_10 : decode cX6_turn 10 = .ok (.invokestatic 62, 3) := by decide +kernel
theorem dX6_turn_13 : decode cX6_turn 13 = .ok (.aload_n 0, 1) := by decide +kernel
theorem dX6_turn_14 : decode cX6_turn 14 = .ok (.invokevirtual 79, 3) := by decide +kernel
theorem dX6_turn_17 : decode cX6_turn 17 = .ok (.aload_n 3, 1) := by decide +kernel
theorem dX6_turn_18 : decode cX6_turn 18 = .ok (.getfield 143, 3) := by decide +kernel
theorem dX6_turn_21 : decode cX6_turn 21 = .ok (.istore 4, 2) := by decide +kernel
theorem dX6_turn_23 : decode cX6_turn 23 = .ok (.aload_n 3, 1) := by decide +kernel
theorem dX6_turn_24 : decode cX6_turn 24 = .ok (.iload_n 2, 1) := by decide +kernel
theorem dX6_turn_25 : decode cX6_turn 25 = .ok (.putfield 143, 3) := by decide +kernel
theorem dX6_turn_28 : decode cX6_turn 28 = .ok (.iload 4, 2) := by decide +kernel
theorem dX6_turn_30 : decode cX6_turn 30 = .ok (.ireturn, 1) := by decide +kernel
theorem dX6_remember_0 : decode cX6_remember 0 = .ok (.aload_n 0, 1) := by decide +kernel
theorem dX6_remember_1 : decode cX6_remember 1 = .ok (.getfield 284, 3) := by decide +kernel
theorem dX6_remember_4 : decode cX6_remember 4 = .ok (.bipush 6, 2) := by decide +kernel
theorem dX6_remember_6 : decode cX6_remember 6 = .ok (.if_icmp .lt 7, 3) := by decide +kernel
theorem dX6_remember_9 : decode cX6_remember 9 = .ok (.aload_n 0, 1) := by decide +kernel
theorem dX6_remember_10 : decode cX6_remember 10 = .ok (.invokevirtual 289, 3) := by decide +kernel
theorem dX6_remember_13 : decode cX6_remember 13 = .ok (.aload_n 0, 1) := by decide +kernel
theorem dX6_remember_14 : decode cX6_remember 14 = .ok (.getfield 33, 3) := by decide +kernel
theorem dX6_remember_17 : decode cX6_remember 17 = .ok (.aload_n 0, 1) := by decide +kernel
theorem dX6_remember_18 : decode cX6_remember 18 = .ok (.getfield 284, 3) := by decide +kernel
theorem dX6_remember_21 : decode cX6_remember 21 = .ok (.aaload, 1) := by decide +kernel
theorem dX6_remember_22 : decode cX6_remember 22 = .ok (.aload_n 0, 1) := by decide +kernel
theorem dX6_remember_23 : decode cX6_remember 23 = .ok (.getfield 26, 3) := by decide +kernel
theorem dX6_remember_26 : decode cX6_remember 26 = .ok (.invokevirtual 85, 3) := by decide +kernel
theorem dX6_remember_29 : decode cX6_remember 29 = .ok (.aload_n 0, 1) := by decide +kernel
theorem dX6_remember_30 : decode cX6_remember 30 = .ok (.dup, 1) := by decide +kernel
theorem dX6_remember_31 : decode cX6_remember 31 = .ok (.getfield 284, 3) := by decide +kernel
theorem dX6_remember_34 : decode cX6_remember 34 = .ok (.iconst 1, 1) := by decide +kernel
theorem dX6_remember_35 : decode cX6_remember 35 = .ok (.iadd, 1) := by decide +kernel
theorem dX6_remember_36 : decode cX6_remember 36 = .ok (.putfield 284, 3) := by decide +kernel
theorem dX6_remember_39 : decode cX6_remember 39 = .ok (.return_, 1) := by decide +kernel
theorem dX6_forgetOldest_0 : decode cX6_forgetOldest 0 = .ok (.aload_n 0, 1) := by decide +kernel
theorem dX6_forgetOldest_1 : decode cX6_forgetOldest 1 = .ok (.getfield 33, 3) := by decide +kernel
theorem dX6_forgetOldest_4 : decode cX6_forgetOldest 4 = .ok (.iconst 0, 1) := by decide +kernel
theorem dX6_forgetOldest_5 : decode cX6_forgetOldest 5 = .ok (.aaload, 1) := by decide +kernel
theorem dX6_forgetOldest_6 : decode cX6_forgetOldest 6 = .ok (.astore_n 1, 1) := by decide +kernel
theorem dX6_forgetOldest_7 : decode cX6_forgetOldest 7 = .ok (.iconst 1, 1) := by decide +kernel
theorem dX6_forgetOldest_8 : decode cX6_forgetOldest 8 = .ok (.istore_n 2, 1) := by decide +kernel
theorem dX6_forgetOldest_9 : decode cX6_forgetOldest 9 = .ok (.iload_n 2, 1) := by decide +kernel
theorem dX6_forgetOldest_10 : decode cX6_forgetOldest 10 = .ok (.aload_n 0, 1) := by decide +kernel
theorem dX6_forgetOldest_11 : decode cX6_forgetOldest 11 = .ok (.getfield 33, 3) := by decide +kernel
theorem dX6_forgetOldest_14 : decode cX6_forgetOldest 14 = .ok (.arraylength, 1) := by decide +kernel
theorem dX6_forgetOldest_15 : decode cX6_forgetOldest 15 = .ok (.if_icmp .ge 23, 3) := by decide +kernel
theorem dX6_forgetOldest_18 : decode cX6_forgetOldest 18 = .ok (.aload_n 0, 1) := by decide +kernel
theorem dX6_forgetOldest_19 : decode cX6_forgetOldest 19 = .ok (.getfield 33, 3) := by decide +kernel
theorem dX6_forgetOldest_22 : decode cX6_forgetOldest 22 = .ok (.iload_n 2, 1) := by decide +kernel
theorem dX6_forgetOldest_23 : decode cX6_forgetOldest 23 = .ok (.iconst 1, 1) := by decide +kernel
theorem dX6_forgetOldest_24 : decode cX6_forgetOldest 24 = .ok (.isub, 1) := by decide +kernel
theorem dX6_forgetOldest_25 : decode cX6_forgetOldest 25 = .ok (.aload_n 0, 1) := by decide +kernel
theorem dX6_forgetOldest_26 : decode cX6_forgetOldest 26 = .ok (.getfield 33, 3) := by decide +kernel
theorem dX6_forgetOldest_29 : decode cX6_forgetOldest 29 = .ok (.iload_n 2, 1) := by decide +kernel
theorem dX6_forgetOldest_30 : decode cX6_forgetOldest 30 = .ok (.aaload, 1) := by decide +kernel
theorem dX6_forgetOldest_31 : decode cX6_forgetOldest 31 = .ok (.aastore, 1) := by decide +kernel
theorem dX6_forgetOldest_32 : decode cX6_forgetOldest 32 = .ok (.iinc 2 1, 3) := by decide +kernel
theorem dX6_forgetOldest_35 : decode cX6_forgetOldest 35 = .ok (.goto (-26), 3) := by decide +kernel
theorem dX6_forgetOldest_38 : decode cX6_forgetOldest 38 = .ok (.aload_n 0, 1) := by decide +kernel
theorem dX6_forgetOldest_39 : decode cX6_forgetOldest 39 = .ok (.getfield 33, 3) := by decide +kernel
theorem dX6_forgetOldest_42 : decode cX6_forgetOldest 42 = .ok (.aload_n 0, 1) := by decide +kernel
theorem dX6_forgetOldest_43 : decode cX6_forgetOldest 43 = .ok (.getfield 33, 3) := by decide +kernel
theorem dX6_forgetOldest_46 : decode cX6_forgetOldest 46 = .ok (.arraylength, 1) := by decide +kernel
theorem dX6_forgetOldest_47 : decode cX6_forgetOldest 47 = .ok (.iconst 1, 1) := by decide +kernel
theorem dX6_forgetOldest_48 : decode cX6_forgetOldest 48 = .ok (.isub, 1) := by decide +kernel
theorem dX6_forgetOldest_49 : decode cX6_forgetOldest 49 = .ok (.aload_n 1, 1) := by decide +kernel
theorem dX6_forgetOldest_50 : decode cX6_forgetOldest 50 = .ok (.aastore, 1) := by decide +kernel
theorem dX6_forgetOldest_51 : decode cX6_forgetOldest 51 = .ok (.aload_n 0, 1) := by decide +kernel
theorem dX6_forgetOldest_52 : decode cX6_forgetOldest 52 = .ok (.dup, 1) := by decide +kernel
theorem dX6_forgetOldest_53 : decode cX6_forgetOldest 53 = .ok (.getfield 284, 3) := by decide +kernel
theorem dX6_forgetOldest_56 : decode cX6_forgetOldest 56 = .ok (.iconst 1, 1) := by decide +kernel
theorem dX6_forgetOldest_57 : decode cX6_forgetOldest 57 = .ok (.isub, 1) := by decide +kernel
theorem dX6_forgetOldest_58 : decode cX6_forgetOldest 58 = .ok (.putfield 284, 3) := by decide +kernel
theorem dX6_forgetOldest_61 : decode cX6_forgetOldest 61 = .ok (.return_, 1) := by decide +kernel
theorem dX6_roomAt_0 : decode cX6_roomAt 0 = .ok (.iload_n 1, 1) := by decide +kernel
theorem dX6_roomAt_1 : decode cX6_roomAt 1 = .ok (.ifCond .lt 14, 3) := by decide +kernel
theorem dX6_roomAt_4 : decode cX6_roomAt 4 = .ok (.iload_n 1, 1) := by decide +kernel
theorem dX6_roomAt_5 : decode cX6_roomAt 5 = .ok (.aload_n 0, 1) := by decide +kernel
theorem dX6_roomAt_6 : decode cX6_roomAt 6 = .ok (.getfield 26, 3) := by decide +kernel
theorem dX6_roomAt_9 : decode cX6_roomAt 9 = .ok (.getfield 89, 3) := by decide +kernel
theorem dX6_roomAt_12 : decode cX6_roomAt 12 = .ok (.if_icmp .lt 14, 3) := by decide +kernel
theorem dX6_roomAt_15 : decode cX6_roomAt 15 = .ok (.new 324, 3) := by decide +kernel
theorem dX6_roomAt_18 : decode cX6_roomAt 18 = .ok (.dup, 1) := by decide +kernel
theorem dX6_roomAt_19 : decode cX6_roomAt 19 = .ok (.ldc_w 326, 3) := by decide +kernel
theorem dX6_roomAt_22 : decode cX6_roomAt 22 = .ok (.invokespecial 328, 3) := by decide +kernel
theorem dX6_roomAt_25 : decode cX6_roomAt 25 = .ok (.athrow, 1) := by decide +kernel
theorem dX6_roomAt_26 : decode cX6_roomAt 26 = .ok (.aload_n 0, 1) := by decide +kernel
theorem dX6_roomAt_27 : decode cX6_roomAt 27 = .ok (.getfield 26, 3) := by decide +kernel
theorem dX6_roomAt_30 : decode cX6_roomAt 30 = .ok (.getfield 231, 3) := by decide +kernel
theorem dX6_roomAt_33 : decode cX6_roomAt 33 = .ok (.iload_n 1, 1) := by decide +kernel
theorem dX6_roomAt_34 : decode cX6_roomAt 34 = .ok (.aaload, 1) := by decide +kernel
theorem dX6_roomAt_35 : decode cX6_roomAt 35 = .ok (.areturn, 1) := by decide +kernel
theorem dX6_requirePlan_0 : decode cX6_requirePlan 0 = .ok (.iload_n 1, 1) := by decide +kernel
theorem dX6_requirePlan_1 : decode cX6_requirePlan 1 = .ok (.ifCond .lt 14, 3) := by decide +kernel
theorem dX6_requirePlan_4 : decode cX6_requirePlan 4 = .ok (.iload_n 1, 1) := by decide +kernel
theorem dX6_requirePlan_5 : decode cX6_requirePlan 5 = .ok (.aload_n 0, 1) := by decide +kernel
theorem dX6_requirePlan_6 : decode cX6_requirePlan 6 = .ok (.getfield 26, 3) := by decide +kernel
theorem dX6_requirePlan_9 : decode cX6_requirePlan 9 = .ok (.getfield 110, 3) := by decide +kernel
theorem dX6_requirePlan_12 : decode cX6_requirePlan 12 = .ok (.if_icmp .lt 14, 3) := by decide +kernel
theorem dX6_requirePlan_15 : decode cX6_requirePlan 15 = .ok (.new 324, 3) := by decide +kernel
theorem dX6_requirePlan_18 : decode cX6_requirePlan 18 = .ok (.dup, 1) := by decide +kernel
theorem dX6_requirePlan_19 : decode cX6_requirePlan 19 = .ok (.ldc_w 329, 3) := by decide +kernel
theorem dX6_requirePlan_22 : decode cX6_requirePlan 22 = .ok (.invokespecial 328, 3) := by decide +kernel
theorem dX6_requirePlan_25 : decode cX6_requirePlan 25 = .ok (.athrow, 1) := by decide +kernel
theorem dX6_requirePlan_26 : decode cX6_requirePlan 26 = .ok (.return_, 1) := by decide +kernel
theorem dX6_requireRange_0 : decode cX6_requireRange 0 = .ok (.iload_n 0, 1) := by decide +kernel
theorem dX6_requireRange_1 : decode cX6_requireRange 1 = .ok (.iload_n 1, 1) := by decide +kernel
theorem dX6_requireRange_2 : decode cX6_requireRange 2 = .ok (.if_icmp .lt 8, 3) := by decide +kernel
theorem dX6_requireRange_5 : decode cX6_requireRange 5 = .ok (.iload_n 0, 1) := by decide +kernel
theorem dX6_requireRange_6 : decode cX6_requireRange 6 = .ok (.iload_n 2, 1) := by decide +kernel
theorem dX6_requireRange_7 : decode cX6_requireRange 7 = .ok (.if_icmp .le 14, 3) := by decide +kernel
theorem dX6_requireRange_10 : decode cX6_requireRange 10 = .ok (.new 333, 3) := by decide +kernel
theorem dX6_requireRange_13 : decode cX6_requireRange 13 = .ok (.dup, 1) := by decide +kernel
theorem dX6_requireRange_14 : decode cX6_requireRange 14 = .ok (.ldc_w 335, 3) := by decide +kernel
theorem dX6_requireRange_17 : decode cX6_requireRange 17 = .ok (.invokespecial 337, 3) := by decide +kernel
theorem dX6_requireRange_20 : decode cX6_requireRange 20 = .ok (.athrow, 1) := by decide +kernel
theorem dX6_requireRange_21 : decode cX6_requireRange 21 = .ok (.return_, 1) := by decide +kernel
theorem dX6_spells_0 : decode cX6_spells 0 = .ok (.iload_n 2, 1) := by decide +kernel
theorem dX6_spells_1 : decode cX6_spells 1 = .ok (.aload_n 3, 1) := by decide +kernel
theorem dX6_spells_2 : decode cX6_spells 2 = .ok (.invokevirtual 338, 3) := by decide +kernel
theorem dX6_spells_5 : decode cX6_spells 5 = .ok (.if_icmp .ne 15, 3) := by decide +kernel
theorem dX6_spells_8 : decode cX6_spells 8 = .ok (.iload_n 1, 1) := by decide +kernel
theorem dX6_spells_9 : decode cX6_spells 9 = .ok (.ifCond .lt 11, 3) := by decide +kernel
theorem dX6_spells_12 : decode cX6_spells 12 = .ok (.iload_n 1, 1) := by decide +kernel
theorem dX6_spells_13 : decode cX6_spells 13 = .ok (.aload_n 0, 1) := by decide +kernel
theorem dX6_spells_14 : decode cX6_spells 14 = .ok (.arraylength, 1) := by decide +kernel
theorem dX6_spells_15 : decode cX6_spells 15 = .ok (.iload_n 2, 1) := by decide +kernel
theorem dX6_spells_16 : decode cX6_spells 16 = .ok (.isub, 1) := by decide +kernel
theorem dX6_spells_17 : decode cX6_spells 17 = .ok (.if_icmp .le 5, 3) := by decide +kernel
theorem dX6_spells_20 : decode cX6_spells 20 = .ok (.iconst 0, 1) := by decide +kernel
theorem dX6_spells_21 : decode cX6_spells 21 = .ok (.ireturn, 1) := by decide +kernel
theorem dX6_spells_22 : decode cX6_spells 22 = .ok (.iconst 0, 1) := by decide +kernel
theorem dX6_spells_23 : decode cX6_spells 23 = .ok (.istore 4, 2) := by decide +kernel
theorem dX6_spells_25 : decode cX6_spells 25 = .ok (.iload 4, 2) := by decide +kernel
theorem dX6_spells_27 : decode cX6_spells 27 = .ok (.iload_n 2, 1) := by decide +kernel
theorem dX6_spells_28 : decode cX6_spells 28 = .ok (.if_icmp .ge 26, 3) := by decide +kernel
theorem dX6_spells_31 : decode cX6_spells 31 = .ok (.aload_n 0, 1) := by decide +kernel
theorem dX6_spells_32 : decode cX6_spells 32 = .ok (.iload_n 1, 1) := by decide +kernel
theorem dX6_spells_33 : decode cX6_spells 33 = .ok (.iload 4, 2) := by decide +kernel
theorem dX6_spells_35 : decode cX6_spells 35 = .ok (.iadd, 1) := by decide +kernel
theorem dX6_spells_36 : decode cX6_spells 36 = .ok (.baload, 1) := by decide +kernel
theorem dX6_spells_37 : decode cX6_spells 37 = .ok (.aload_n 3, 1) := by decide +kernel
theorem dX6_spells_38 : decode cX6_spells 38 = .ok (.iload 4, 2) := by decide +kernel
theorem dX6_spells_40 : decode cX6_spells 40 = .ok (.invokevirtual 341, 3) := by decide +kernel
theorem dX6_spells_43 : decode cX6_spells 43 = .ok (.if_icmp .eq 5, 3) := by decide +kernel
theorem dX6_spells_46 : decode cX6_spells 46 = .ok (.iconst 0, 1) := by decide +kernel
theorem dX6_spells_47 : decode cX6_spells 47 = .ok (.ireturn, 1) := by decide +kernel
theorem dX6_spells_48 : decode cX6_spells 48 = .ok (.iinc 4 1, 3) := by decide +kernel
theorem dX6_spells_51 : decode cX6_spells 51 = .ok (.goto (-26), 3) := by decide +kernel
theorem dX6_spells_54 : decode cX6_spells 54 = .ok (.iconst 1, 1) := by decide +kernel
theorem dX6_spells_55 : decode cX6_spells 55 = .ok (.ireturn, 1) := by decide +kernel
