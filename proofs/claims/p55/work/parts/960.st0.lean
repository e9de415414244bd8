/-! THE START: what the Statement gives, as memberships. Written by program (wip/p55/gen/m900a.py). -/
abbrev nar : List Cond := flatC (Jvm.Cond.and given_1 narrow_1)
theorem sub_idx {ws big : List Cond} (ix : List Nat) (h : ws.map some = ix.map (fun i => big[i]?)) : ∀ w ∈ ws, w ∈ big := by
  intro w hw
  have h1 : some w ∈ ws.map some := List.mem_map.mpr ⟨w, hw, rfl⟩
  rw [h] at h1
  obtain ⟨i, -, hi⟩ := List.mem_map.mp h1
  exact List.mem_of_getElem? hi
abbrev st_L : Type := String × Nat × String × List Int32
def st_tm (x : st_L) : Term := .string x.1 x.2.1
def st_vl (x : st_L) : Term := .field (st_tm x) "java/lang/String" "value" "[B"
def st_ws (x : st_L) : List Cond := [.exactly (st_tm x) "java/lang/String", .eq (.field (st_tm x) "java/lang/String" "coder" "B") (.int 0), .arrayOf (st_vl x) .byte, .eq (.length (st_vl x)) (.int (Int32.ofNat x.2.2.2.length))] ++ (List.range x.2.2.2.length).map (fun j => .eq (.elem (st_vl x) (.int (Int32.ofNat j))) (.int (x.2.2.2.getD j 0)))
theorem st_in0 : ∀ w ∈ ((ab_lits.drop 0).take 8).flatMap st_ws, w ∈ nar := sub_idx [526, 527, 528, 529, 800, 801, 802, 803, 562, 563, 564, 565, 566, 567, 568, 569, 570, 571, 572, 573, 574, 575, 576, 577, 578, 579, 580, 581, 582, 583, 584, 585, 586, 587, 588, 589, 590, 591, 592, 593, 594, 595, 596, 597, 598, 599, 600, 601, 602, 603, 604, 605, 606, 607, 608, 609, 610, 611, 612, 613, 614, 615, 616, 617, 618, 619, 620] (by decide +kernel)
theorem st_in1 : ∀ w ∈ ((ab_lits.drop 8).take 8).flatMap st_ws, w ∈ nar := sub_idx [762, 763, 764, 765, 766, 767, 768, 769, 770, 771, 772, 773, 774, 775, 776, 777, 778, 779, 780, 781, 782, 783, 784, 785, 786, 787, 788, 789, 790, 791, 792, 793, 794, 795, 796, 797, 798, 799, 530, 531, 532, 533, 534, 535, 536, 537, 538, 539, 540, 541, 542, 543, 544, 545, 546, 547, 548, 549, 550, 551, 552, 553, 554, 555, 556, 557, 558, 559, 560, 561, 621, 622, 623, 624, 625, 848, 849, 850, 851, 852, 853, 854, 855, 856, 857, 858, 859, 860, 861, 862, 863, 805, 806, 807, 808, 809, 810, 811, 812, 813, 814, 815, 816, 817, 818, 819, 820, 821, 822, 823, 824, 825, 826, 827, 828, 829, 830, 831, 832, 833, 834, 835, 836, 837, 838, 839, 840, 841, 842, 843, 844, 845, 846, 847, 626, 627, 628, 629, 630, 631, 632, 633, 634, 635, 636, 637, 638] (by decide +kernel)
theorem st_in2 : ∀ w ∈ ((ab_lits.drop 16).take 8).flatMap st_ws, w ∈ nar := sub_idx [639, 640, 641, 642, 643, 644, 645, 646, 647, 648, 649, 650, 651, 652, 653, 654, 655, 656, 657, 658, 659, 660, 661, 662, 663, 664, 665, 666, 667, 668, 669, 670, 671, 672, 673, 674, 675, 676, 677, 678, 679, 680, 681, 682, 683, 684, 685, 686, 687, 688, 689, 690, 691, 692, 693, 694, 695, 696, 697, 698, 699, 700, 701, 702, 703, 704, 705, 706, 707, 708, 709, 710, 711, 712, 713, 714, 715, 716, 717, 718, 719, 720, 721, 722, 723] (by decide +kernel)
theorem st_in3 : ∀ w ∈ ((ab_lits.drop 24).take 8).flatMap st_ws, w ∈ nar := sub_idx [724, 725, 726, 727, 728, 729, 730, 731, 732, 733, 734, 735, 736, 737, 738, 739, 740, 741, 742, 743, 744, 745, 746, 747, 748, 749, 750, 751, 752, 753, 754, 755, 756, 757, 758, 759, 760, 761, 526, 527, 528, 529, 526, 527, 528, 529, 526, 527, 528, 529] (by decide +kernel)
theorem st_in4 : ∀ w ∈ ((ab_lits.drop 32).take 8).flatMap st_ws, w ∈ nar := sub_idx [526, 527, 528, 529, 526, 527, 528, 529, 526, 527, 528, 529, 526, 527, 528, 529, 526, 527, 528, 529, 526, 527, 528, 529, 864, 865, 866, 867, 868, 869, 870, 871, 872, 873, 874, 875, 876, 877, 878, 879] (by decide +kernel)
theorem st_in5 : ∀ w ∈ ((ab_lits.drop 40).take 8).flatMap st_ws, w ∈ nar := sub_idx [880, 881, 882, 883, 884, 885, 886, 887, 888, 889, 890, 891, 892, 893, 894, 895, 896, 897, 898, 899, 900, 901, 902, 903, 904, 905, 906, 907, 908, 909, 910, 911, 912, 913, 914, 915, 916, 917, 918, 919, 920, 921, 922, 923, 924, 925, 926, 927, 928, 929, 930, 931, 932, 933, 934, 935, 936, 937, 938, 939, 940, 941, 942, 943, 944, 945, 946, 947] (by decide +kernel)
theorem st_in6 : ∀ w ∈ ((ab_lits.drop 48).take 8).flatMap st_ws, w ∈ nar := sub_idx [948, 949, 950, 951, 952, 953, 954, 955, 956, 957, 958, 959, 960, 961, 962, 963, 964, 965, 966, 967, 968, 969, 970, 971, 972, 973, 974, 975, 976, 977, 978, 979, 980, 981, 982, 983, 984, 985, 986, 987, 988, 989, 990, 991, 992, 993, 994, 995, 996, 997, 998, 999, 1000, 1001, 1002, 1003, 1004, 1005, 1006, 1007, 1008, 1009, 1010, 1011, 1012, 1013, 1014, 1015, 1016, 1017, 1018, 1019, 1020, 1021, 1022, 1023, 1024, 1025, 1026] (by decide +kernel)
theorem st_cut : ab_lits = (ab_lits.drop 0).take 8 ++ ((ab_lits.drop 8).take 8 ++ ((ab_lits.drop 16).take 8 ++ ((ab_lits.drop 24).take 8 ++ ((ab_lits.drop 32).take 8 ++ ((ab_lits.drop 40).take 8 ++ ((ab_lits.drop 48).take 8)))))) := rfl
theorem st_in {x : st_L} (hx : x ∈ ab_lits) : ∀ w ∈ st_ws x, w ∈ nar := by
  intro w hw
  rw [st_cut] at hx
  rcases List.mem_append.mp hx with hx | hx
  · exact st_in0 w (List.mem_flatMap.mpr ⟨x, hx, hw⟩)
  rcases List.mem_append.mp hx with hx | hx
  · exact st_in1 w (List.mem_flatMap.mpr ⟨x, hx, hw⟩)
  rcases List.mem_append.mp hx with hx | hx
  · exact st_in2 w (List.mem_flatMap.mpr ⟨x, hx, hw⟩)
  rcases List.mem_append.mp hx with hx | hx
  · exact st_in3 w (List.mem_flatMap.mpr ⟨x, hx, hw⟩)
  rcases List.mem_append.mp hx with hx | hx
  · exact st_in4 w (List.mem_flatMap.mpr ⟨x, hx, hw⟩)
  rcases List.mem_append.mp hx with hx | hx
  · exact st_in5 w (List.mem_flatMap.mpr ⟨x, hx, hw⟩)
  exact st_in6 w (List.mem_flatMap.mpr ⟨x, hx, hw⟩)
theorem st_len : ∀ x ∈ ab_lits, x.2.2.2.length < 2 ^ 31 := by decide +kernel
theorem st_ref : ∀ w ∈ ab_lits.map (fun x => Cond.stringRef x.1 x.2.1 x.2.2.1), w ∈ lw_tbl := sub_idx [93, 925, 497, 643, 644, 645, 646, 647, 783, 430, 477, 648, 1171, 1128, 1161, 649, 650, 676, 677, 678, 679, 680, 681, 682, 683, 684, 685, 686, 687, 93, 93, 93, 93, 93, 93, 93, 93, 93, 1273, 1274, 1275, 1276, 1277, 1278, 1279, 1280, 1281, 1282, 1283, 1284, 1285, 1286, 1287, 1288, 1289, 1290] (by decide +kernel)
def kq_nm (i : Nat) : String := ((ab_kws[i]?).map (fun q => q.1)).getD ""
def kq_li (i : Nat) : Nat := ((ab_kws[i]?).map (fun q => q.2)).getD 0
def kq_tm (i : Nat) : Term := .static "ValveRoom$Keyword" (kq_nm i) "LValveRoom$Keyword;"
def kq_st (j : Nat) : Term := ((ab_lits[j]?).map st_tm).getD (.int 0)
abbrev kq_KW : Term := .static "ValveRoom" "KEYWORDS" "[LValveRoom$Keyword;"
def kq_ws (i : Nat) : List Cond := [.exactly (kq_tm i) "ValveRoom$Keyword", .eq (.field (kq_tm i) "java/lang/Enum" "ordinal" "I") (.int (Int32.ofNat i)), .eq (.field (kq_tm i) "ValveRoom$Keyword" "spelling" "Ljava/lang/String;") (kq_st (kq_li i)), .eq (.elem kq_KW (.int (Int32.ofNat i))) (kq_tm i)]
theorem kq_in : ∀ w ∈ (List.range 18).flatMap kq_ws, w ∈ nar := sub_idx [336, 337, 338, 222, 349, 350, 351, 223, 261, 262, 263, 224, 363, 364, 365, 225, 378, 379, 380, 226, 394, 395, 396, 227, 411, 412, 413, 228, 264, 265, 266, 229, 268, 269, 270, 230, 273, 274, 275, 231, 279, 280, 281, 232, 286, 287, 288, 233, 429, 430, 431, 234, 448, 449, 450, 235, 294, 295, 296, 236, 303, 304, 305, 237, 313, 314, 315, 238, 324, 325, 326, 239] (by decide +kernel)
def kq_pr : List (Nat × Nat) := [(0, 1), (0, 3), (0, 4), (0, 5), (0, 6), (0, 12), (0, 13), (1, 3), (1, 4), (1, 5), (1, 6), (1, 12), (1, 13), (2, 0), (2, 1), (2, 3), (2, 4), (2, 5), (2, 6), (2, 7), (2, 8), (2, 9), (2, 10), (2, 11), (2, 12), (2, 13), (2, 14), (2, 15), (2, 16), (2, 17), (3, 4), (3, 5), (3, 6), (3, 12), (3, 13), (4, 5), (4, 6), (4, 12), (4, 13), (5, 6), (5, 12), (5, 13), (6, 12), (6, 13), (7, 0), (7, 1), (7, 3), (7, 4), (7, 5), (7, 6), (7, 8), (7, 9), (7, 10), (7, 11), (7, 12), (7, 13), (7, 14), (7, 15), (7, 16), (7, 17), (8, 0), (8, 1), (8, 3), (8, 4), (8, 5), (8, 6), (8, 9), (8, 10), (8, 11), (8, 12), (8, 13), (8, 14), (8, 15), (8, 16), (8, 17), (9, 0), (9, 1), (9, 3), (9, 4), (9, 5), (9, 6), (9, 10), (9, 11), (9, 12), (9, 13), (9, 14), (9, 15), (9, 16), (9, 17), (10, 0), (10, 1), (10, 3), (10, 4), (10, 5), (10, 6), (10, 11), (10, 12), (10, 13), (10, 14), (10, 15), (10, 16), (10, 17), (11, 0), (11, 1), (11, 3), (11, 4), (11, 5), (11, 6), (11, 12), (11, 13), (11, 14), (11, 15), (11, 16), (11, 17), (12, 13), (14, 0), (14, 1), (14, 3), (14, 4), (14, 5), (14, 6), (14, 12), (14, 13), (14, 15), (14, 16), (14, 17), (15, 0), (15, 1), (15, 3), (15, 4), (15, 5), (15, 6), (15, 12), (15, 13), (15, 16), (15, 17), (16, 0), (16, 1), (16, 3), (16, 4), (16, 5), (16, 6), (16, 12), (16, 13), (16, 17), (17, 0), (17, 1), (17, 3), (17, 4), (17, 5), (17, 6), (17, 12), (17, 13)]
theorem kq_ne : ∀ w ∈ kq_pr.map (fun q => Cond.not (.eq (kq_tm q.1) (kq_tm q.2))), w ∈ nar := sub_idx [362, 376, 391, 407, 424, 442, 461, 377, 392, 408, 425, 443, 462, 339, 352, 366, 381, 397, 414, 267, 271, 276, 282, 289, 432, 451, 297, 306, 316, 327, 393, 409, 426, 444, 463, 410, 427, 445, 464, 428, 446, 465, 447, 466, 340, 353, 367, 382, 398, 415, 272, 277, 283, 290, 433, 452, 298, 307, 317, 328, 341, 354, 368, 383, 399, 416, 278, 284, 291, 434, 453, 299, 308, 318, 329, 342, 355, 369, 384, 400, 417, 285, 292, 435, 454, 300, 309, 319, 330, 343, 356, 370, 385, 401, 418, 293, 436, 455, 301, 310, 320, 331, 344, 357, 371, 386, 402, 419, 437, 456, 302, 311, 321, 332, 467, 345, 358, 372, 387, 403, 420, 438, 457, 312, 322, 333, 346, 359, 373, 388, 404, 421, 439, 458, 323, 334, 347, 360, 374, 389, 405, 422, 440, 459, 335, 348, 361, 375, 390, 406, 423, 441, 460] (by decide +kernel)
theorem kq_al0 : ((List.range 18).all fun i => (List.range 18).all fun j => decide (i = j) || (decide ((i, j) ∈ kq_pr) || decide ((j, i) ∈ kq_pr))) = true := by decide +kernel
theorem kq_all {i j : Nat} (hi : i < 18) (hj : j < 18) (h : i ≠ j) : (i, j) ∈ kq_pr ∨ (j, i) ∈ kq_pr := by
  have h1 := List.all_eq_true.mp (List.all_eq_true.mp kq_al0 i (List.mem_range.mpr hi)) j (List.mem_range.mpr hj)
  simp only [Bool.or_eq_true, decide_eq_true_eq] at h1
  rcases h1 with h1 | h1
  · exact absurd h1 h
  · exact h1
def ar_ws (tm : Term) (vs : List Int32) (ty : FieldType) : List Cond := [.arrayOf tm ty, .eq (.length tm) (.int (Int32.ofNat vs.length))] ++ (List.range vs.length).map (fun j => .eq (.elem tm (.int (Int32.ofNat j))) (.int (vs.getD j 0)))
abbrev ar_SW : Term := .static "ValveRoom$1" "$SwitchMap$ValveRoom$Keyword" "[I"
abbrev ar_DO : Term := .static "java/lang/Integer" "DigitOnes" "[B"
abbrev ar_DT : Term := .static "java/lang/Integer" "DigitTens" "[B"
theorem ar_inSW : ∀ w ∈ ar_ws ar_SW ab_sw .int, w ∈ nar := sub_idx [241, 242, 243, 244, 245, 246, 247, 248, 249, 250, 251, 252, 253, 254, 255, 256, 257, 258, 259, 260] (by decide +kernel)
theorem ar_inDO : ∀ w ∈ ar_ws ar_DO ab_do .byte, w ∈ nar := sub_idx [12, 13, 14, 15, 16, 17, 18, 19, 20, 21, 22, 23, 24, 25, 26, 27, 28, 29, 30, 31, 32, 33, 34, 35, 36, 37, 38, 39, 40, 41, 42, 43, 44, 45, 46, 47, 48, 49, 50, 51, 52, 53, 54, 55, 56, 57, 58, 59, 60, 61, 62, 63, 64, 65, 66, 67, 68, 69, 70, 71, 72, 73, 74, 75, 76, 77, 78, 79, 80, 81, 82, 83, 84, 85, 86, 87, 88, 89, 90, 91, 92, 93, 94, 95, 96, 97, 98, 99, 100, 101, 102, 103, 104, 105, 106, 107, 108, 109, 110, 111, 112, 113] (by decide +kernel)
theorem ar_inDT : ∀ w ∈ ar_ws ar_DT ab_dt .byte, w ∈ nar := sub_idx [115, 116, 117, 118, 119, 120, 121, 122, 123, 124, 125, 126, 127, 128, 129, 130, 131, 132, 133, 134, 135, 136, 137, 138, 139, 140, 141, 142, 143, 144, 145, 146, 147, 148, 149, 150, 151, 152, 153, 154, 155, 156, 157, 158, 159, 160, 161, 162, 163, 164, 165, 166, 167, 168, 169, 170, 171, 172, 173, 174, 175, 176, 177, 178, 179, 180, 181, 182, 183, 184, 185, 186, 187, 188, 189, 190, 191, 192, 193, 194, 195, 196, 197, 198, 199, 200, 201, 202, 203, 204, 205, 206, 207, 208, 209, 210, 211, 212, 213, 214, 215, 216] (by decide +kernel)
def ot_ws : List Cond := [Cond.arrayOf kq_KW (.object "ValveRoom$Keyword"), Cond.eq (.length kq_KW) (.int 18), Cond.eq (.static "java/lang/String" "COMPACT_STRINGS" "Z") (.int 1), Cond.eq (.static "java/lang/StringUTF16" "HI_BYTE_SHIFT" "I") (.int 0), Cond.eq (.static "java/lang/StringUTF16" "LO_BYTE_SHIFT" "I") (.int 8), Cond.isRef (.static "java/lang/Throwable" "UNASSIGNED_STACK" "[Ljava/lang/StackTraceElement;"), Cond.isRef (.static "java/lang/Throwable" "SUPPRESSED_SENTINEL" "Ljava/util/List;"), Cond.isRef (.static "jdk/internal/util/Preconditions" "SIOOBE_FORMATTER" "Ljava/util/function/BiFunction;")]
theorem ot_in : ∀ w ∈ ot_ws, w ∈ nar := sub_idx [219, 220, 4, 9, 10, 5, 6, 7] (by decide +kernel)
