/-! ValveRoomModel: a room's tick. Written by program (wip/whole/gen/m520.py) but for the heads. -/
def l_min (x y : Int64) : Int64 := if y < x then y else x
def l_max (x y : Int64) : Int64 := if x < y then y else x
abbrev PLh (v : Int64) (n : Nat) (h : ab_H) : ab_R → Nat → ab_H → Prop := fun r n' h' => r = .inl (some (.long v)) ∧ n' = n ∧ h' = h
theorem lg_e {x y : Int64} (h : 0 < lg_cmp x y) : y < x := Int64.not_le.mp (lg_d h)
theorem lg_f {x y : Int64} (h : lg_cmp x y < 0) : x < y := Int64.not_le.mp (lg_c h)
theorem am_minL {n : Nat} {h : ab_H} (x y : Int64) : AM yJ9_min_f86c9 cJ9_min_f86c9 4 (some .long) [] 0 0 0 [.long x, .long y] n h (PLh (l_min x y) n h) := by
  intro has
  change WA RJ9 cJ9_min_f86c9 4 [] _ _ 0 0 0 [some (.long x), none, some (.long y), none] [] n _
  refine wa_lload_n dJ9_min_f86c9_0 rfl ?_
  refine wa_lload_n dJ9_min_f86c9_1 rfl ?_
  refine wa_lcmp dJ9_min_f86c9_2 ?_
  refine wa_if_gt 10 dJ9_min_f86c9_3 rfl (fun c3 => ?_) (fun c3 => ?_)
  · refine wa_lload_n dJ9_min_f86c9_10 rfl ?_
    exact wa_lreturn dJ9_min_f86c9_11 ⟨Nat.le_refl _, Nat.le_refl _, rfl, (by congr 3; unfold l_min; first | (rw [if_pos (lg_e c3)]; done) | (rw [if_neg (Int64.not_lt.mpr (lg_b c3))]; done)), rfl, rfl⟩
  · refine wa_lload_n dJ9_min_f86c9_6 rfl ?_
    refine wa_goto 11 dJ9_min_f86c9_7 rfl ?_
    exact wa_lreturn dJ9_min_f86c9_11 ⟨Nat.le_refl _, Nat.le_refl _, rfl, (by congr 3; unfold l_min; first | (rw [if_pos (lg_e c3)]; done) | (rw [if_neg (Int64.not_lt.mpr (lg_b c3))]; done)), rfl, rfl⟩
theorem am_maxL {n : Nat} {h : ab_H} (x y : Int64) : AM yJ9_max_f86c9 cJ9_max_f86c9 4 (some .long) [] 0 0 0 [.long x, .long y] n h (PLh (l_max x y) n h) := by
  intro has
  change WA RJ9 cJ9_max_f86c9 4 [] _ _ 0 0 0 [some (.long x), none, some (.long y), none] [] n _
  refine wa_lload_n dJ9_max_f86c9_0 rfl ?_
  refine wa_lload_n dJ9_max_f86c9_1 rfl ?_
  refine wa_lcmp dJ9_max_f86c9_2 ?_
  refine wa_if_lt 10 dJ9_max_f86c9_3 rfl (fun c3 => ?_) (fun c3 => ?_)
  · refine wa_lload_n dJ9_max_f86c9_10 rfl ?_
    exact wa_lreturn dJ9_max_f86c9_11 ⟨Nat.le_refl _, Nat.le_refl _, rfl, (by congr 3; unfold l_max; first | (rw [if_pos (lg_f c3)]; done) | (rw [if_neg (Int64.not_lt.mpr (lg_a c3))]; done)), rfl, rfl⟩
  · refine wa_lload_n dJ9_max_f86c9_6 rfl ?_
    refine wa_goto 11 dJ9_max_f86c9_7 rfl ?_
    exact wa_lreturn dJ9_max_f86c9_11 ⟨Nat.le_refl _, Nat.le_refl _, rfl, (by congr 3; unfold l_max; first | (rw [if_pos (lg_f c3)]; done) | (rw [if_neg (Int64.not_lt.mpr (lg_a c3))]; done)), rfl, rfl⟩
def i_fdiv (x y : Int32) : Int32 := if (x ^^^ y) < 0 ∧ ¬ x / y * y = x then x / y - 1 else x / y
def i_fmod (x y : Int32) : Int32 := if (x ^^^ y) < 0 ∧ ¬ x - x / y * y = 0 then x - x / y * y + y else x - x / y * y
/-- what is wanted of room i's valve -/
def wnt (g : Nat → Int32) (i : Nat) : Int32 := if 0 < of g i 7 then 0 else if i_abs (mis g i) ≤ g 7 then of g i 1 else (l_max 0 (l_min 100 ((g 8).toInt64 * (mis g i).toInt64))).toInt32
theorem am_fdiv2 {n : Nat} {h : ab_H} (x y : Int32) (hy : ¬ y = 0) : AM yJ9_floorDiv_7cf53 cJ9_floorDiv_7cf53 3 (some .int) [] 0 0 0 [.int x, .int y] n h (PIh (i_fdiv x y) n h) := am_fdiv x y hy
theorem am_fmod2 {n : Nat} {h : ab_H} (x y : Int32) (hy : ¬ y = 0) : AM yJ9_floorMod_7cf53 cJ9_floorMod_7cf53 3 (some .int) [] 0 0 0 [.int x, .int y] n h (PIh (i_fmod x y) n h) := am_fmod x y hy
def f_warm1 (i : Nat) (g : Nat → Int32) : Nat → Int32 := pt g i 0 (of g i 0 + i_fdiv (of g i 1 * of g i 3) 100 - i_fdiv ((of g i 4 + if of g i 5 = 1 then 10 else 0) * (of g i 0 - g 2)) 100)
def f_warm2 (i : Nat) (b : Int32) (g : Nat → Int32) : Nat → Int32 := if g 4 ≤ b - of g i 0 then ad (pt g i 7 (g 5)) i 13 1 else if 0 < of g i 7 then ad g i 7 (-1) else g
def f_warm (i : Nat) (g : Nat → Int32) : Nat → Int32 := f_warm2 i (of g i 0) (f_warm1 i g)
def f_ex (i : Nat) (g : Nat → Int32) : Nat → Int32 := ad (f_drive i (of g i 1) 100 (f_drive i 0 100 (f_drive i 100 100 g))) i 14 1
def f_over (i : Nat) (g : Nat → Int32) : Nat → Int32 := if 0 < of g i 9 then ad g i 9 (-1) else g
def isx (i : Nat) (g : Nat → Int32) : Prop := i_fmod (g 1 - nI i) 336 = g 10
def f_exif (i : Nat) (g : Nat → Int32) : Nat → Int32 := if i_fmod (g 1 - nI i) 336 = g 10 then f_ex i g else g
def f_away (i : Nat) (w : Int32) (g : Nat → Int32) : Nat → Int32 := ad g i 16 (if of g i 1 = w then 0 else 1)
def f_empty (i : Nat) (g : Nat → Int32) : Nat → Int32 := ad g i 17 (if of g i 2 = 0 then 1 else 0)
def f_heat (i : Nat) (g : Nat → Int32) : Nat → Int32 := ad g i 10 (of g i 1)
def f_fin (i : Nat) (g : Nat → Int32) : Nat → Int32 := f_heat i (f_empty i (f_away i (wnt g i) (f_drive i (wnt g i) (g 9) g)))
def f_goOn (i : Nat) (g : Nat → Int32) : Nat → Int32 := f_fin i (f_exif i (f_over i (f_warm i g)))
theorem mm_isInBand {n i : Nat} {S : SS} (hn : 279 ≤ n) (hi : i < 6) (hP : PT (pg (row S) i)) (ht : 0 ≤ (row S 1).toInt) : AM yX7_isInBand cX7_isInBand 2 (some .boolean) [] 4 0 0 [.ref 267, .int (nI i)] n (Hp S) (PI (b2i (i_abs (mis (row S) i) ≤ row S 7)) n S) := by
  intro has
  change WA RX7 cX7_isInBand 2 [] _ _ 0 0 0 [some (.ref 267), some (.int (nI i))] [] n _
  refine wa_aload_n dX7_isInBand_0 rfl ?_
  refine wa_iload_n dX7_isInBand_1 rfl ?_
  refine c_VI dX7_isInBand_2 (mm_targetOf (by assumption) hi hP ht) lk_X7_78 rfl (isO_MO _ _ _) rfl (ltS (by assumption)) ?_
  refine wa_aload_n dX7_isInBand_5 rfl ?_
  refine wa_iload_n dX7_isInBand_6 rfl ?_
  refine wa_iconst (x := 0) dX7_isInBand_7 (by decide) ?_
  refine c_VI dX7_isInBand_8 (mm_of2 (w := 0) (by assumption) hi (by decide)) lk_X7_68 rfl (isO_MO _ _ _) rfl (ltS (by assumption)) ?_
  refine wa_isub dX7_isInBand_11 ?_
  refine c_SI dX7_isInBand_12 (am_abs _) lk_X7_82 rfl ?_
  refine wa_aload_n dX7_isInBand_15 rfl ?_
  refine g_row (by assumption) dX7_isInBand_16 fl_X7_24 ?_
  refine wa_bipush (x := 7) dX7_isInBand_19 (by decide) ?_
  refine s_iald (j := 7) isA_mr dX7_isInBand_21 (lt_mr (by assumption)) rfl (by decide) ?_
  refine wa_icmp_gt 29 dX7_isInBand_22 rfl (fun c22 => ?_) (fun c22 => ?_)
  · refine wa_iconst (x := 0) dX7_isInBand_29 (by decide) ?_
    exact wa_ireturn dX7_isInBand_30 ⟨Nat.le_refl _, Nat.le_refl _, ⟨_, rfl, rfl⟩, (by congr 3; unfold b2i mis; first | (rw [if_pos (Int32.not_lt.mp c22)]; done) | (rw [if_neg (Int32.not_le.mpr c22)]; done)), rfl, rfl⟩
  · refine wa_iconst (x := 1) dX7_isInBand_25 (by decide) ?_
    refine wa_goto 30 dX7_isInBand_26 rfl ?_
    exact wa_ireturn dX7_isInBand_30 ⟨Nat.le_refl _, Nat.le_refl _, ⟨_, rfl, rfl⟩, (by congr 3; unfold b2i mis; first | (rw [if_pos (Int32.not_lt.mp c22)]; done) | (rw [if_neg (Int32.not_le.mpr c22)]; done)), rfl, rfl⟩
theorem mm_wantedIn {n i : Nat} {S : SS} (hn : 279 ≤ n) (hi : i < 6) (hP : PT (pg (row S) i)) (ht : 0 ≤ (row S 1).toInt) : AM yX7_wantedIn cX7_wantedIn 4 (some .int) [] 5 0 0 [.ref 267, .int (nI i)] n (Hp S) (PI (wnt (row S) i) n S) := by
  intro has
  change WA RX7 cX7_wantedIn 4 [] _ _ 0 0 0 [some (.ref 267), some (.int (nI i)), none, none] [] n _
  refine wa_aload_n dX7_wantedIn_0 rfl ?_
  refine wa_iload_n dX7_wantedIn_1 rfl ?_
  refine wa_bipush (x := 7) dX7_wantedIn_2 (by decide) ?_
  refine c_VI dX7_wantedIn_4 (mm_of2 (w := 7) (by assumption) hi (by decide)) lk_X7_68 rfl (isO_MO _ _ _) rfl (ltS (by assumption)) ?_
  refine wa_if_le 12 dX7_wantedIn_7 rfl (fun c7 => ?_) (fun c7 => ?_)
  · refine wa_aload_n dX7_wantedIn_12 rfl ?_
    refine wa_iload_n dX7_wantedIn_13 rfl ?_
    refine c_VI dX7_wantedIn_14 (mm_isInBand (by assumption) hi hP ht) lk_X7_87 rfl (isO_MO _ _ _) rfl (ltS (by assumption)) ?_
    refine wa_if_eq 27 dX7_wantedIn_17 rfl (fun c17 => ?_) (fun c17 => ?_)
    · refine wa_aload_n dX7_wantedIn_27 rfl ?_
      refine g_row (by assumption) dX7_wantedIn_28 fl_X7_24 ?_
      refine wa_bipush (x := 8) dX7_wantedIn_31 (by decide) ?_
      refine s_iald (j := 8) isA_mr dX7_wantedIn_33 (lt_mr (by assumption)) rfl (by decide) ?_
      refine wa_i2l dX7_wantedIn_34 ?_
      refine wa_aload_n dX7_wantedIn_35 rfl ?_
      refine wa_iload_n dX7_wantedIn_36 rfl ?_
      refine c_VI dX7_wantedIn_37 (mm_targetOf (by assumption) hi hP ht) lk_X7_78 rfl (isO_MO _ _ _) rfl (ltS (by assumption)) ?_
      refine wa_aload_n dX7_wantedIn_40 rfl ?_
      refine wa_iload_n dX7_wantedIn_41 rfl ?_
      refine wa_iconst (x := 0) dX7_wantedIn_42 (by decide) ?_
      refine c_VI dX7_wantedIn_43 (mm_of2 (w := 0) (by assumption) hi (by decide)) lk_X7_68 rfl (isO_MO _ _ _) rfl (ltS (by assumption)) ?_
      refine wa_isub dX7_wantedIn_46 ?_
      refine wa_i2l dX7_wantedIn_47 ?_
      refine wa_lmul dX7_wantedIn_48 ?_
      refine wa_lstore_n dX7_wantedIn_49 rfl ?_
      refine wa_lconst (x := 0) dX7_wantedIn_50 (by decide) ?_
      refine wa_ldc2 dX7_wantedIn_51 wv_X7_91 ?_
      refine wa_lload_n dX7_wantedIn_54 rfl ?_
      refine c_SL dX7_wantedIn_55 (am_minL _ _) lk_X7_93 rfl ?_
      refine c_SL dX7_wantedIn_58 (am_maxL _ _) lk_X7_97 rfl ?_
      refine wa_l2i dX7_wantedIn_61 ?_
      exact wa_ireturn dX7_wantedIn_62 ⟨Nat.le_refl _, Nat.le_refl _, ⟨_, rfl, rfl⟩, (by unfold wnt; rw [if_neg (Int32.not_lt.mpr c7), if_neg (fun z => by unfold b2i at c17; rw [if_pos z] at c17; exact absurd c17 (by decide))]; rfl), rfl, rfl⟩
    · refine wa_aload_n dX7_wantedIn_20 rfl ?_
      refine wa_iload_n dX7_wantedIn_21 rfl ?_
      refine wa_iconst (x := 1) dX7_wantedIn_22 (by decide) ?_
      refine c_VI dX7_wantedIn_23 (mm_of2 (w := 1) (by assumption) hi (by decide)) lk_X7_68 rfl (isO_MO _ _ _) rfl (ltS (by assumption)) ?_
      exact wa_ireturn dX7_wantedIn_26 ⟨Nat.le_refl _, Nat.le_refl _, ⟨_, rfl, rfl⟩, (by unfold wnt; rw [if_neg (Int32.not_lt.mpr c7), if_pos (Classical.byContradiction (fun z => by unfold b2i at c17; rw [if_neg z] at c17; exact c17 rfl))]), rfl, rfl⟩
  · refine wa_iconst (x := 0) dX7_wantedIn_10 (by decide) ?_
    exact wa_ireturn dX7_wantedIn_11 ⟨Nat.le_refl _, Nat.le_refl _, ⟨_, rfl, rfl⟩, (by unfold wnt; rw [if_pos (Int32.not_le.mp c7)]), rfl, rfl⟩
theorem wm_tail {Q : ab_Q} {n i : Nat} {S : SS} (l3 l4 l5 : Option Value) (b : Int32) (hn : 279 ≤ n) (hi : i < 6) (hQ : Q (.inl none) 0 0 n (Hp (md (f_warm2 i b) S))) : WA RX7 cX7_warm 6 [] (ab_rm 2 0 0) Q 0 0 81 [some (.ref 267), some (.int (nI i)), some (.int b), l3, l4, l5] [] n (Hp S) := by
  refine wa_iload_n dX7_warm_81 rfl ?_
  refine wa_aload_n dX7_warm_82 rfl ?_
  refine wa_iload_n dX7_warm_83 rfl ?_
  refine wa_iconst (x := 0) dX7_warm_84 (by decide) ?_
  refine c_VI dX7_warm_85 (mm_of2 (w := 0) (by assumption) hi (by decide)) lk_X7_68 rfl (isO_MO _ _ _) rfl (ltS (by assumption)) ?_
  refine wa_isub dX7_warm_88 ?_
  refine wa_aload_n dX7_warm_89 rfl ?_
  refine g_row (by assumption) dX7_warm_90 fl_X7_24 ?_
  refine wa_iconst (x := 4) dX7_warm_93 (by decide) ?_
  refine s_iald (j := 4) isA_mr dX7_warm_94 (lt_mr (by assumption)) rfl (by decide) ?_
  refine wa_icmp_lt 120 dX7_warm_95 rfl (fun c95 => ?_) (fun c95 => ?_)
  · refine wa_aload_n dX7_warm_120 rfl ?_
    refine wa_iload_n dX7_warm_121 rfl ?_
    refine wa_bipush (x := 7) dX7_warm_122 (by decide) ?_
    refine c_VI dX7_warm_124 (mm_of2 (w := 7) (by assumption) hi (by decide)) lk_X7_68 rfl (isO_MO _ _ _) rfl (ltS (by assumption)) ?_
    refine wa_if_le 138 dX7_warm_127 rfl (fun c127 => ?_) (fun c127 => ?_)
    · exact wa_return dX7_warm_138 (q_eq hQ (by first | (rw [md_md]; unfold md f_warm2; rw [if_pos (Int32.not_lt.mp c95)]; first | done | rfl) | (unfold md f_warm2; rw [if_neg (Int32.not_le.mpr c95), if_pos (Int32.not_le.mp c127)]) | (unfold md f_warm2; rw [if_neg (Int32.not_le.mpr c95), if_neg (Int32.not_lt.mpr c127)]; exact (su_self S (mr S)).symm)))
    · refine wa_aload_n dX7_warm_130 rfl ?_
      refine wa_iload_n dX7_warm_131 rfl ?_
      refine wa_bipush (x := 7) dX7_warm_132 (by decide) ?_
      refine wa_iconst (x := (-1)) dX7_warm_134 (by decide) ?_
      refine c_VV dX7_warm_135 (mm_add2 (w := 7) (by assumption) hi (by decide) _) lk_X7_64 rfl (isO_MO _ _ _) rfl (ltS (by assumption)) ?_
      exact wa_return dX7_warm_138 (q_eq hQ (by first | (rw [md_md]; unfold md f_warm2; rw [if_pos (Int32.not_lt.mp c95)]; first | done | rfl) | (unfold md f_warm2; rw [if_neg (Int32.not_le.mpr c95), if_pos (Int32.not_le.mp c127)]) | (unfold md f_warm2; rw [if_neg (Int32.not_le.mpr c95), if_neg (Int32.not_lt.mpr c127)]; exact (su_self S (mr S)).symm)))
  · refine wa_aload_n dX7_warm_98 rfl ?_
    refine wa_iload_n dX7_warm_99 rfl ?_
    refine wa_bipush (x := 7) dX7_warm_100 (by decide) ?_
    refine wa_aload_n dX7_warm_102 rfl ?_
    refine g_row (by assumption) dX7_warm_103 fl_X7_24 ?_
    refine wa_iconst (x := 5) dX7_warm_106 (by decide) ?_
    refine s_iald (j := 5) isA_mr dX7_warm_107 (lt_mr (by assumption)) rfl (by decide) ?_
    refine c_VV dX7_warm_108 (mm_put2 (w := 7) (by assumption) hi (by decide) _) lk_X7_105 rfl (isO_MO _ _ _) rfl (ltS (by assumption)) ?_
    refine wa_aload_n dX7_warm_111 rfl ?_
    refine wa_iload_n dX7_warm_112 rfl ?_
    refine wa_iconst (x := 1) dX7_warm_113 (by decide) ?_
    refine c_VV dX7_warm_114 (mm_counts2 (w := 1) (by assumption) hi (by decide)) lk_X7_108 rfl (isO_MO _ _ _) rfl (ltS (by assumption)) ?_
    refine wa_goto 138 dX7_warm_117 rfl ?_
    exact wa_return dX7_warm_138 (q_eq hQ (by first | (rw [md_md]; unfold md f_warm2; rw [if_pos (Int32.not_lt.mp c95)]; first | done | rfl) | (unfold md f_warm2; rw [if_neg (Int32.not_le.mpr c95), if_pos (Int32.not_le.mp c127)]) | (unfold md f_warm2; rw [if_neg (Int32.not_le.mpr c95), if_neg (Int32.not_lt.mpr c127)]; exact (su_self S (mr S)).symm)))
theorem mm_warm {n i : Nat} {S : SS} (hn : 279 ≤ n) (hi : i < 6) : AM yX7_warm cX7_warm 6 none [] 2 0 0 [.ref 267, .int (nI i)] n (Hp S) (PV n (md (f_warm i) S)) := by
  intro has
  change WA RX7 cX7_warm 6 [] _ _ 0 0 0 [some (.ref 267), some (.int (nI i)), none, none, none, none] [] n _
  refine wa_aload_n dX7_warm_0 rfl ?_
  refine wa_iload_n dX7_warm_1 rfl ?_
  refine wa_iconst (x := 0) dX7_warm_2 (by decide) ?_
  refine c_VI dX7_warm_3 (mm_of2 (w := 0) (by assumption) hi (by decide)) lk_X7_68 rfl (isO_MO _ _ _) rfl (ltS (by assumption)) ?_
  refine wa_istore_n dX7_warm_6 rfl ?_
  refine wa_aload_n dX7_warm_7 rfl ?_
  refine wa_iload_n dX7_warm_8 rfl ?_
  refine wa_iconst (x := 4) dX7_warm_9 (by decide) ?_
  refine c_VI dX7_warm_10 (mm_of2 (w := 4) (by assumption) hi (by decide)) lk_X7_68 rfl (isO_MO _ _ _) rfl (ltS (by assumption)) ?_
  refine wa_aload_n dX7_warm_13 rfl ?_
  refine wa_iload_n dX7_warm_14 rfl ?_
  refine wa_iconst (x := 5) dX7_warm_15 (by decide) ?_
  refine c_VI dX7_warm_16 (mm_of2 (w := 5) (by assumption) hi (by decide)) lk_X7_68 rfl (isO_MO _ _ _) rfl (ltS (by assumption)) ?_
  refine wa_iconst (x := 1) dX7_warm_19 (by decide) ?_
  refine wa_icmp_ne 28 dX7_warm_20 rfl (fun c20 => ?_) (fun c20 => ?_)
  · refine wa_iconst (x := 0) dX7_warm_28 (by decide) ?_
    refine wa_iadd dX7_warm_29 ?_
    refine wa_istore_n dX7_warm_30 rfl ?_
    refine wa_aload_n dX7_warm_31 rfl ?_
    refine wa_iload_n dX7_warm_32 rfl ?_
    refine wa_iconst (x := 1) dX7_warm_33 (by decide) ?_
    refine c_VI dX7_warm_34 (mm_of2 (w := 1) (by assumption) hi (by decide)) lk_X7_68 rfl (isO_MO _ _ _) rfl (ltS (by assumption)) ?_
    refine wa_aload_n dX7_warm_37 rfl ?_
    refine wa_iload_n dX7_warm_38 rfl ?_
    refine wa_iconst (x := 3) dX7_warm_39 (by decide) ?_
    refine c_VI dX7_warm_40 (mm_of2 (w := 3) (by assumption) hi (by decide)) lk_X7_68 rfl (isO_MO _ _ _) rfl (ltS (by assumption)) ?_
    refine wa_imul dX7_warm_43 ?_
    refine wa_bipush (x := 100) dX7_warm_44 (by decide) ?_
    refine c_SI dX7_warm_46 (am_fdiv2 _ _ (by decide)) lk_X7_102 rfl ?_
    refine wa_istore dX7_warm_49 rfl ?_
    refine wa_iload_n dX7_warm_51 rfl ?_
    refine wa_iload_n dX7_warm_52 rfl ?_
    refine wa_aload_n dX7_warm_53 rfl ?_
    refine g_row (by assumption) dX7_warm_54 fl_X7_24 ?_
    refine wa_iconst (x := 2) dX7_warm_57 (by decide) ?_
    refine s_iald (j := 2) isA_mr dX7_warm_58 (lt_mr (by assumption)) rfl (by decide) ?_
    refine wa_isub dX7_warm_59 ?_
    refine wa_imul dX7_warm_60 ?_
    refine wa_bipush (x := 100) dX7_warm_61 (by decide) ?_
    refine c_SI dX7_warm_63 (am_fdiv2 _ _ (by decide)) lk_X7_102 rfl ?_
    refine wa_istore dX7_warm_66 rfl ?_
    refine wa_aload_n dX7_warm_68 rfl ?_
    refine wa_iload_n dX7_warm_69 rfl ?_
    refine wa_iconst (x := 0) dX7_warm_70 (by decide) ?_
    refine wa_iload_n dX7_warm_71 rfl ?_
    refine wa_iload dX7_warm_72 rfl ?_
    refine wa_iadd dX7_warm_74 ?_
    refine wa_iload dX7_warm_75 rfl ?_
    refine wa_isub dX7_warm_77 ?_
    refine c_VV dX7_warm_78 (mm_put2 (w := 0) (by assumption) hi (by decide) _) lk_X7_105 rfl (isO_MO _ _ _) rfl (ltS (by assumption)) ?_
    refine wm_tail _ _ _ _ (by assumption) hi ⟨Nat.le_refl _, Nat.le_refl _, rfl, rfl, rfl, ?_⟩
    rw [md_md]
    unfold md f_warm f_warm1
    first | (rw [if_pos c20]; done) | (rw [if_neg c20]; done)
  · refine wa_bipush (x := 10) dX7_warm_23 (by decide) ?_
    refine wa_goto 29 dX7_warm_25 rfl ?_
    refine wa_iadd dX7_warm_29 ?_
    refine wa_istore_n dX7_warm_30 rfl ?_
    refine wa_aload_n dX7_warm_31 rfl ?_
    refine wa_iload_n dX7_warm_32 rfl ?_
    refine wa_iconst (x := 1) dX7_warm_33 (by decide) ?_
    refine c_VI dX7_warm_34 (mm_of2 (w := 1) (by assumption) hi (by decide)) lk_X7_68 rfl (isO_MO _ _ _) rfl (ltS (by assumption)) ?_
    refine wa_aload_n dX7_warm_37 rfl ?_
    refine wa_iload_n dX7_warm_38 rfl ?_
    refine wa_iconst (x := 3) dX7_warm_39 (by decide) ?_
    refine c_VI dX7_warm_40 (mm_of2 (w := 3) (by assumption) hi (by decide)) lk_X7_68 rfl (isO_MO _ _ _) rfl (ltS (by assumption)) ?_
    refine wa_imul dX7_warm_43 ?_
    refine wa_bipush (x := 100) dX7_warm_44 (by decide) ?_
    refine c_SI dX7_warm_46 (am_fdiv2 _ _ (by decide)) lk_X7_102 rfl ?_
    refine wa_istore dX7_warm_49 rfl ?_
    refine wa_iload_n dX7_warm_51 rfl ?_
    refine wa_iload_n dX7_warm_52 rfl ?_
    refine wa_aload_n dX7_warm_53 rfl ?_
    refine g_row (by assumption) dX7_warm_54 fl_X7_24 ?_
    refine wa_iconst (x := 2) dX7_warm_57 (by decide) ?_
    refine s_iald (j := 2) isA_mr dX7_warm_58 (lt_mr (by assumption)) rfl (by decide) ?_
    refine wa_isub dX7_warm_59 ?_
    refine wa_imul dX7_warm_60 ?_
    refine wa_bipush (x := 100) dX7_warm_61 (by decide) ?_
    refine c_SI dX7_warm_63 (am_fdiv2 _ _ (by decide)) lk_X7_102 rfl ?_
    refine wa_istore dX7_warm_66 rfl ?_
    refine wa_aload_n dX7_warm_68 rfl ?_
    refine wa_iload_n dX7_warm_69 rfl ?_
    refine wa_iconst (x := 0) dX7_warm_70 (by decide) ?_
    refine wa_iload_n dX7_warm_71 rfl ?_
    refine wa_iload dX7_warm_72 rfl ?_
    refine wa_iadd dX7_warm_74 ?_
    refine wa_iload dX7_warm_75 rfl ?_
    refine wa_isub dX7_warm_77 ?_
    refine c_VV dX7_warm_78 (mm_put2 (w := 0) (by assumption) hi (by decide) _) lk_X7_105 rfl (isO_MO _ _ _) rfl (ltS (by assumption)) ?_
    refine wm_tail _ _ _ _ (by assumption) hi ⟨Nat.le_refl _, Nat.le_refl _, rfl, rfl, rfl, ?_⟩
    rw [md_md]
    unfold md f_warm f_warm1
    first | (rw [if_pos c20]; done) | (rw [if_neg c20]; done)
/-- g' tells the same programs and the same numbers of the house -/
def kp (g g' : Nat → Int32) : Prop := (∀ i, pg g' i = pg g i) ∧ ∀ k, k < 71 → g' k = g k
theorem kp.rf {g : Nat → Int32} : kp g g := ⟨fun _ => rfl, fun _ _ => rfl⟩
theorem kp.tr {a b c : Nat → Int32} (h1 : kp a b) (h2 : kp b c) : kp a c := ⟨fun i => (h2.1 i).trans (h1.1 i), fun k hk => (h2.2 k hk).trans (h1.2 k hk)⟩
theorem kp_pt (g : Nat → Int32) (i : Nat) {w : Nat} (x : Int32) (hw : w < 18) : kp g (pt g i w x) := by
  refine ⟨fun i' => ?_, fun k hk => pt_lo g x hk⟩
  funext t
  unfold pg
  split
  · exact (of_pt g x (by omega) (by omega)).trans (if_neg (by omega))
  · rfl
theorem kp_ad (g : Nat → Int32) (i : Nat) {w : Nat} (x : Int32) (hw : w < 18) : kp g (ad g i w x) := kp_pt g i _ hw
theorem kp_drive (g : Nat → Int32) (i : Nat) (to most : Int32) : kp g (f_drive i to most g) := ((kp_ad _ i _ (by decide)).tr (kp_ad _ i _ (by decide))).tr (kp_ad _ i _ (by decide))
theorem kp_warm (g : Nat → Int32) (i : Nat) : kp g (f_warm i g) := by
  refine kp.tr (b := f_warm1 i g) (kp_pt g i _ (by decide : (0 : Nat) < 18)) ?_
  show kp (f_warm1 i g) (f_warm2 i (of g i 0) (f_warm1 i g))
  unfold f_warm2
  split
  · exact (kp_pt _ i _ (by decide)).tr (kp_ad _ i _ (by decide))
  · split
    · exact kp_ad _ i _ (by decide)
    · exact kp.rf
theorem kp_over (g : Nat → Int32) (i : Nat) : kp g (f_over i g) := by
  unfold f_over
  split
  · exact kp_ad _ i _ (by decide)
  · exact kp.rf
theorem kp_ex (g : Nat → Int32) (i : Nat) : kp g (f_ex i g) := (((kp_drive _ i _ _).tr (kp_drive _ i _ _)).tr (kp_drive _ i _ _)).tr (kp_ad _ i _ (by decide))
theorem kp_exif (g : Nat → Int32) (i : Nat) : kp g (f_exif i g) := by
  unfold f_exif
  split
  · exact kp_ex g i
  · exact kp.rf
theorem kp_fin (g : Nat → Int32) (i : Nat) : kp g (f_fin i g) := (((kp_drive _ i _ _).tr (kp_ad _ i _ (by decide))).tr (kp_ad _ i _ (by decide))).tr (kp_ad _ i _ (by decide))
theorem kp_goOn (g : Nat → Int32) (i : Nat) : kp g (f_goOn i g) := (((kp_warm g i).tr (kp_over _ i)).tr (kp_exif _ i)).tr (kp_fin _ i)
theorem mm_isExercise {n i : Nat} {S : SS} (hn : 279 ≤ n) (x : Int32) : AM yX7_isExercise cX7_isExercise 3 (some .boolean) [] 1 0 0 [.ref 267, .int (nI i), .int x] n (Hp S) (PI (b2i (i_fmod (x - nI i) 336 = row S 10)) n S) := by
  intro has
  change WA RX7 cX7_isExercise 3 [] _ _ 0 0 0 [some (.ref 267), some (.int (nI i)), some (.int x)] [] n _
  refine wa_iload_n dX7_isExercise_0 rfl ?_
  refine wa_iload_n dX7_isExercise_1 rfl ?_
  refine wa_isub dX7_isExercise_2 ?_
  refine wa_sipush (x := 336) dX7_isExercise_3 (by decide) ?_
  refine c_SI dX7_isExercise_6 (am_fmod2 _ _ (by decide)) lk_X7_112 rfl ?_
  refine wa_aload_n dX7_isExercise_9 rfl ?_
  refine g_row (by assumption) dX7_isExercise_10 fl_X7_24 ?_
  refine wa_bipush (x := 10) dX7_isExercise_13 (by decide) ?_
  refine s_iald (j := 10) isA_mr dX7_isExercise_15 (lt_mr (by assumption)) rfl (by decide) ?_
  refine wa_icmp_ne 23 dX7_isExercise_16 rfl (fun c16 => ?_) (fun c16 => ?_)
  · refine wa_iconst (x := 0) dX7_isExercise_23 (by decide) ?_
    exact wa_ireturn dX7_isExercise_24 ⟨Nat.le_refl _, Nat.le_refl _, ⟨_, rfl, rfl⟩, (by congr 3; unfold b2i; first | (rw [if_pos c16]; done) | (rw [if_neg c16]; done)), rfl, rfl⟩
  · refine wa_iconst (x := 1) dX7_isExercise_19 (by decide) ?_
    refine wa_goto 24 dX7_isExercise_20 rfl ?_
    exact wa_ireturn dX7_isExercise_24 ⟨Nat.le_refl _, Nat.le_refl _, ⟨_, rfl, rfl⟩, (by congr 3; unfold b2i; first | (rw [if_pos c16]; done) | (rw [if_neg c16]; done)), rfl, rfl⟩
theorem mm_exercise {n i : Nat} {S : SS} (hn : 279 ≤ n) (hi : i < 6) : AM yX7_exercise cX7_exercise 3 none [] 2 0 0 [.ref 267, .int (nI i)] n (Hp S) (PV n (md (f_ex i) S)) := by
  intro has
  change WA RX7 cX7_exercise 3 [] _ _ 0 0 0 [some (.ref 267), some (.int (nI i)), none] [] n _
  refine wa_aload_n dX7_exercise_0 rfl ?_
  refine wa_iload_n dX7_exercise_1 rfl ?_
  refine wa_iconst (x := 1) dX7_exercise_2 (by decide) ?_
  refine c_VI dX7_exercise_3 (mm_of2 (w := 1) (by assumption) hi (by decide)) lk_X7_68 rfl (isO_MO _ _ _) rfl (ltS (by assumption)) ?_
  refine wa_istore_n dX7_exercise_6 rfl ?_
  refine wa_aload_n dX7_exercise_7 rfl ?_
  refine wa_iload_n dX7_exercise_8 rfl ?_
  refine wa_bipush (x := 100) dX7_exercise_9 (by decide) ?_
  refine wa_bipush (x := 100) dX7_exercise_11 (by decide) ?_
  refine c_VV dX7_exercise_13 (mm_drive (by assumption) hi _ _) lk_X7_115 rfl (isO_MO _ _ _) rfl (ltS (by assumption)) ?_
  refine wa_aload_n dX7_exercise_16 rfl ?_
  refine wa_iload_n dX7_exercise_17 rfl ?_
  refine wa_iconst (x := 0) dX7_exercise_18 (by decide) ?_
  refine wa_bipush (x := 100) dX7_exercise_19 (by decide) ?_
  refine c_VV dX7_exercise_21 (mm_drive (by assumption) hi _ _) lk_X7_115 rfl (isO_MO _ _ _) rfl (ltS (by assumption)) ?_
  refine wa_aload_n dX7_exercise_24 rfl ?_
  refine wa_iload_n dX7_exercise_25 rfl ?_
  refine wa_iload_n dX7_exercise_26 rfl ?_
  refine wa_bipush (x := 100) dX7_exercise_27 (by decide) ?_
  refine c_VV dX7_exercise_29 (mm_drive (by assumption) hi _ _) lk_X7_115 rfl (isO_MO _ _ _) rfl (ltS (by assumption)) ?_
  refine wa_aload_n dX7_exercise_32 rfl ?_
  refine wa_iload_n dX7_exercise_33 rfl ?_
  refine wa_iconst (x := 2) dX7_exercise_34 (by decide) ?_
  refine c_VV dX7_exercise_35 (mm_counts2 (w := 2) (by assumption) hi (by decide)) lk_X7_108 rfl (isO_MO _ _ _) rfl (ltS (by assumption)) ?_
  exact wa_return dX7_exercise_38 ⟨Nat.le_refl _, Nat.le_refl _, rfl, rfl, rfl, congrArg Hp (by simp only [md_md]; unfold md f_ex; rfl)⟩
theorem go_3 {Q : ab_Q} {n i : Nat} {S : SS} (l2 : Option Value) (hn : 279 ≤ n) (hi : i < 6) (hP : PT (pg (row S) i)) (ht : 0 ≤ (row S 1).toInt) (hQ : Q (.inl none) 0 0 n (Hp (md (f_fin i) S))) : WA RX7 cX7_goOn 3 [] (ab_rm 6 0 0) Q 0 0 42 [some (.ref 267), some (.int (nI i)), l2] [] n (Hp S) := by
  refine wa_aload_n dX7_goOn_42 rfl ?_
  refine wa_iload_n dX7_goOn_43 rfl ?_
  refine c_VI dX7_goOn_44 (mm_wantedIn (by assumption) hi hP ht) lk_X7_129 rfl (isO_MO _ _ _) rfl (ltS (by assumption)) ?_
  refine wa_istore_n dX7_goOn_47 rfl ?_
  refine wa_aload_n dX7_goOn_48 rfl ?_
  refine wa_iload_n dX7_goOn_49 rfl ?_
  refine wa_iload_n dX7_goOn_50 rfl ?_
  refine wa_aload_n dX7_goOn_51 rfl ?_
  refine g_row (by assumption) dX7_goOn_52 fl_X7_24 ?_
  refine wa_bipush (x := 9) dX7_goOn_55 (by decide) ?_
  refine s_iald (j := 9) isA_mr dX7_goOn_57 (lt_mr (by assumption)) rfl (by decide) ?_
  refine c_VV dX7_goOn_58 (mm_drive (by assumption) hi _ _) lk_X7_115 rfl (isO_MO _ _ _) rfl (ltS (by assumption)) ?_
  refine wa_aload_n dX7_goOn_61 rfl ?_
  refine wa_iload_n dX7_goOn_62 rfl ?_
  refine wa_bipush (x := 16) dX7_goOn_63 (by decide) ?_
  refine wa_aload_n dX7_goOn_65 rfl ?_
  refine wa_iload_n dX7_goOn_66 rfl ?_
  refine wa_iconst (x := 1) dX7_goOn_67 (by decide) ?_
  refine c_VI dX7_goOn_68 (mm_of2 (w := 1) (by assumption) hi (by decide)) lk_X7_68 rfl (isO_MO _ _ _) rfl (ltS (by assumption)) ?_
  refine wa_iload_n dX7_goOn_71 rfl ?_
  refine wa_icmp_ne 79 dX7_goOn_72 rfl (fun c72 => ?_) (fun c72 => ?_)
  · refine wa_iconst (x := 1) dX7_goOn_79 (by decide) ?_
    refine c_VV dX7_goOn_80 (mm_add2 (w := 16) (by assumption) hi (by decide) _) lk_X7_64 rfl (isO_MO _ _ _) rfl (ltS (by assumption)) ?_
    refine wa_aload_n dX7_goOn_83 rfl ?_
    refine wa_iload_n dX7_goOn_84 rfl ?_
    refine wa_bipush (x := 17) dX7_goOn_85 (by decide) ?_
    refine wa_aload_n dX7_goOn_87 rfl ?_
    refine wa_iload_n dX7_goOn_88 rfl ?_
    refine wa_iconst (x := 2) dX7_goOn_89 (by decide) ?_
    refine c_VI dX7_goOn_90 (mm_of2 (w := 2) (by assumption) hi (by decide)) lk_X7_68 rfl (isO_MO _ _ _) rfl (ltS (by assumption)) ?_
    refine wa_if_ne 100 dX7_goOn_93 rfl (fun c93 => ?_) (fun c93 => ?_)
    · refine wa_iconst (x := 0) dX7_goOn_100 (by decide) ?_
      refine c_VV dX7_goOn_101 (mm_add2 (w := 17) (by assumption) hi (by decide) _) lk_X7_64 rfl (isO_MO _ _ _) rfl (ltS (by assumption)) ?_
      refine wa_aload_n dX7_goOn_104 rfl ?_
      refine wa_iload_n dX7_goOn_105 rfl ?_
      refine wa_bipush (x := 10) dX7_goOn_106 (by decide) ?_
      refine wa_aload_n dX7_goOn_108 rfl ?_
      refine wa_iload_n dX7_goOn_109 rfl ?_
      refine wa_iconst (x := 1) dX7_goOn_110 (by decide) ?_
      refine c_VI dX7_goOn_111 (mm_of2 (w := 1) (by assumption) hi (by decide)) lk_X7_68 rfl (isO_MO _ _ _) rfl (ltS (by assumption)) ?_
      refine c_VV dX7_goOn_114 (mm_add2 (w := 10) (by assumption) hi (by decide) _) lk_X7_64 rfl (isO_MO _ _ _) rfl (ltS (by assumption)) ?_
      exact wa_return dX7_goOn_117 (q_eq hQ (by
        simp only [md_md, md_row] at *
        unfold md f_fin f_heat f_empty f_away
        first | (rw [if_pos c72, if_pos c93]; first | done | rfl) | (rw [if_pos c72, if_neg c93]; first | done | rfl) | (rw [if_neg c72, if_pos c93]; first | done | rfl) | (rw [if_neg c72, if_neg c93]; first | done | rfl)))
    · refine wa_iconst (x := 1) dX7_goOn_96 (by decide) ?_
      refine wa_goto 101 dX7_goOn_97 rfl ?_
      refine c_VV dX7_goOn_101 (mm_add2 (w := 17) (by assumption) hi (by decide) _) lk_X7_64 rfl (isO_MO _ _ _) rfl (ltS (by assumption)) ?_
      refine wa_aload_n dX7_goOn_104 rfl ?_
      refine wa_iload_n dX7_goOn_105 rfl ?_
      refine wa_bipush (x := 10) dX7_goOn_106 (by decide) ?_
      refine wa_aload_n dX7_goOn_108 rfl ?_
      refine wa_iload_n dX7_goOn_109 rfl ?_
      refine wa_iconst (x := 1) dX7_goOn_110 (by decide) ?_
      refine c_VI dX7_goOn_111 (mm_of2 (w := 1) (by assumption) hi (by decide)) lk_X7_68 rfl (isO_MO _ _ _) rfl (ltS (by assumption)) ?_
      refine c_VV dX7_goOn_114 (mm_add2 (w := 10) (by assumption) hi (by decide) _) lk_X7_64 rfl (isO_MO _ _ _) rfl (ltS (by assumption)) ?_
      exact wa_return dX7_goOn_117 (q_eq hQ (by
        simp only [md_md, md_row] at *
        unfold md f_fin f_heat f_empty f_away
        first | (rw [if_pos c72, if_pos c93]; first | done | rfl) | (rw [if_pos c72, if_neg c93]; first | done | rfl) | (rw [if_neg c72, if_pos c93]; first | done | rfl) | (rw [if_neg c72, if_neg c93]; first | done | rfl)))
  · refine wa_iconst (x := 0) dX7_goOn_75 (by decide) ?_
    refine wa_goto 80 dX7_goOn_76 rfl ?_
    refine c_VV dX7_goOn_80 (mm_add2 (w := 16) (by assumption) hi (by decide) _) lk_X7_64 rfl (isO_MO _ _ _) rfl (ltS (by assumption)) ?_
    refine wa_aload_n dX7_goOn_83 rfl ?_
    refine wa_iload_n dX7_goOn_84 rfl ?_
    refine wa_bipush (x := 17) dX7_goOn_85 (by decide) ?_
    refine wa_aload_n dX7_goOn_87 rfl ?_
    refine wa_iload_n dX7_goOn_88 rfl ?_
    refine wa_iconst (x := 2) dX7_goOn_89 (by decide) ?_
    refine c_VI dX7_goOn_90 (mm_of2 (w := 2) (by assumption) hi (by decide)) lk_X7_68 rfl (isO_MO _ _ _) rfl (ltS (by assumption)) ?_
    refine wa_if_ne 100 dX7_goOn_93 rfl (fun c93 => ?_) (fun c93 => ?_)
    · refine wa_iconst (x := 0) dX7_goOn_100 (by decide) ?_
      refine c_VV dX7_goOn_101 (mm_add2 (w := 17) (by assumption) hi (by decide) _) lk_X7_64 rfl (isO_MO _ _ _) rfl (ltS (by assumption)) ?_
      refine wa_aload_n dX7_goOn_104 rfl ?_
      refine wa_iload_n dX7_goOn_105 rfl ?_
      refine wa_bipush (x := 10) dX7_goOn_106 (by decide) ?_
      refine wa_aload_n dX7_goOn_108 rfl ?_
      refine wa_iload_n dX7_goOn_109 rfl ?_
      refine wa_iconst (x := 1) dX7_goOn_110 (by decide) ?_
      refine c_VI dX7_goOn_111 (mm_of2 (w := 1) (by assumption) hi (by decide)) lk_X7_68 rfl (isO_MO _ _ _) rfl (ltS (by assumption)) ?_
      refine c_VV dX7_goOn_114 (mm_add2 (w := 10) (by assumption) hi (by decide) _) lk_X7_64 rfl (isO_MO _ _ _) rfl (ltS (by assumption)) ?_
      exact wa_return dX7_goOn_117 (q_eq hQ (by
        simp only [md_md, md_row] at *
        unfold md f_fin f_heat f_empty f_away
        first | (rw [if_pos c72, if_pos c93]; first | done | rfl) | (rw [if_pos c72, if_neg c93]; first | done | rfl) | (rw [if_neg c72, if_pos c93]; first | done | rfl) | (rw [if_neg c72, if_neg c93]; first | done | rfl)))
    · refine wa_iconst (x := 1) dX7_goOn_96 (by decide) ?_
      refine wa_goto 101 dX7_goOn_97 rfl ?_
      refine c_VV dX7_goOn_101 (mm_add2 (w := 17) (by assumption) hi (by decide) _) lk_X7_64 rfl (isO_MO _ _ _) rfl (ltS (by assumption)) ?_
      refine wa_aload_n dX7_goOn_104 rfl ?_
      refine wa_iload_n dX7_goOn_105 rfl ?_
      refine wa_bipush (x := 10) dX7_goOn_106 (by decide) ?_
      refine wa_aload_n dX7_goOn_108 rfl ?_
      refine wa_iload_n dX7_goOn_109 rfl ?_
      refine wa_iconst (x := 1) dX7_goOn_110 (by decide) ?_
      refine c_VI dX7_goOn_111 (mm_of2 (w := 1) (by assumption) hi (by decide)) lk_X7_68 rfl (isO_MO _ _ _) rfl (ltS (by assumption)) ?_
      refine c_VV dX7_goOn_114 (mm_add2 (w := 10) (by assumption) hi (by decide) _) lk_X7_64 rfl (isO_MO _ _ _) rfl (ltS (by assumption)) ?_
      exact wa_return dX7_goOn_117 (q_eq hQ (by
        simp only [md_md, md_row] at *
        unfold md f_fin f_heat f_empty f_away
        first | (rw [if_pos c72, if_pos c93]; first | done | rfl) | (rw [if_pos c72, if_neg c93]; first | done | rfl) | (rw [if_neg c72, if_pos c93]; first | done | rfl) | (rw [if_neg c72, if_neg c93]; first | done | rfl)))
theorem go_2 {Q : ab_Q} {n i : Nat} {S : SS} (l2 : Option Value) (hn : 279 ≤ n) (hi : i < 6) (hP : PT (pg (row S) i)) (ht : 0 ≤ (row S 1).toInt) (hQ : Q (.inl none) 0 0 n (Hp (md (fun g => f_fin i (f_exif i g)) S))) : WA RX7 cX7_goOn 3 [] (ab_rm 6 0 0) Q 0 0 23 [some (.ref 267), some (.int (nI i)), l2] [] n (Hp S) := by
  refine wa_aload_n dX7_goOn_23 rfl ?_
  refine wa_iload_n dX7_goOn_24 rfl ?_
  refine wa_aload_n dX7_goOn_25 rfl ?_
  refine g_row (by assumption) dX7_goOn_26 fl_X7_24 ?_
  refine wa_iconst (x := 1) dX7_goOn_29 (by decide) ?_
  refine s_iald (j := 1) isA_mr dX7_goOn_30 (lt_mr (by assumption)) rfl (by decide) ?_
  refine c_VI dX7_goOn_31 (mm_isExercise (by assumption) _) lk_X7_122 rfl (isO_MO _ _ _) rfl (ltS (by assumption)) ?_
  refine wa_if_eq 42 dX7_goOn_34 rfl (fun c34 => ?_) (fun c34 => ?_)
  · first
    | (have c := Classical.byContradiction (fun z => c34 (by unfold b2i; rw [if_neg z]))
       have kpx := kp_ex (row S) i
       refine go_3 _ hn hi (by rw [md_row, kpx.1]; exact hP) (by rw [md_row, kpx.2 1 (by decide)]; exact ht) (q_eq hQ ?_)
       rw [md_md]
       unfold md f_exif
       show su S (mr S) (f_fin i (f_ex i (row S))) = su S (mr S) (f_fin i (if i_fmod (row S 1 - nI i) 336 = row S 10 then f_ex i (row S) else row S))
       rw [if_pos c])
    | (have c : ¬ (i_fmod (S.1 (mr S) 1 - nI i) 336 = row S 10) := fun z => by unfold b2i at c34; rw [if_pos z] at c34; exact absurd c34 (by decide)
       refine go_3 _ hn hi hP ht (q_eq hQ ?_)
       unfold md f_exif
       show su S (mr S) (f_fin i (row S)) = su S (mr S) (f_fin i (if i_fmod (row S 1 - nI i) 336 = row S 10 then f_ex i (row S) else row S))
       rw [if_neg c])
  · refine wa_aload_n dX7_goOn_37 rfl ?_
    refine wa_iload_n dX7_goOn_38 rfl ?_
    refine c_VV dX7_goOn_39 (mm_exercise (by assumption) hi) lk_X7_126 rfl (isO_MO _ _ _) rfl (ltS (by assumption)) ?_
    first
    | (have c := Classical.byContradiction (fun z => c34 (by unfold b2i; rw [if_neg z]))
       have kpx := kp_ex (row S) i
       refine go_3 _ hn hi (by rw [md_row, kpx.1]; exact hP) (by rw [md_row, kpx.2 1 (by decide)]; exact ht) (q_eq hQ ?_)
       rw [md_md]
       unfold md f_exif
       show su S (mr S) (f_fin i (f_ex i (row S))) = su S (mr S) (f_fin i (if i_fmod (row S 1 - nI i) 336 = row S 10 then f_ex i (row S) else row S))
       rw [if_pos c])
    | (have c : ¬ (i_fmod (S.1 (mr S) 1 - nI i) 336 = row S 10) := fun z => by unfold b2i at c34; rw [if_pos z] at c34; exact absurd c34 (by decide)
       refine go_3 _ hn hi hP ht (q_eq hQ ?_)
       unfold md f_exif
       show su S (mr S) (f_fin i (row S)) = su S (mr S) (f_fin i (if i_fmod (row S 1 - nI i) 336 = row S 10 then f_ex i (row S) else row S))
       rw [if_neg c])
theorem mm_goOn {n i : Nat} {S : SS} (hn : 279 ≤ n) (hi : i < 6) (hP : PT (pg (row S) i)) (ht : 0 ≤ (row S 1).toInt) : AM yX7_goOn cX7_goOn 3 none [] 6 0 0 [.ref 267, .int (nI i)] n (Hp S) (PV n (md (f_goOn i) S)) := by
  intro has
  change WA RX7 cX7_goOn 3 [] _ _ 0 0 0 [some (.ref 267), some (.int (nI i)), none] [] n _
  have kpw := kp_warm (row S) i
  have kpo := kp_over (f_warm i (row S)) i
  refine wa_aload_n dX7_goOn_0 rfl ?_
  refine wa_iload_n dX7_goOn_1 rfl ?_
  refine c_VV dX7_goOn_2 (mm_warm (by assumption) hi) lk_X7_118 rfl (isO_MO _ _ _) rfl (ltS (by assumption)) ?_
  refine wa_aload_n dX7_goOn_5 rfl ?_
  refine wa_iload_n dX7_goOn_6 rfl ?_
  refine wa_bipush (x := 9) dX7_goOn_7 (by decide) ?_
  refine c_VI dX7_goOn_9 (mm_of2 (w := 9) (by assumption) hi (by decide)) lk_X7_68 rfl (isO_MO _ _ _) rfl (ltS (by assumption)) ?_
  refine wa_if_le 23 dX7_goOn_12 rfl (fun c12 => ?_) (fun c12 => ?_)
  · first
    | (have c := Int32.not_le.mp c12
       rw [md_row] at c
       refine go_2 _ hn hi ?_ ?_ ⟨Nat.le_refl _, Nat.le_refl _, rfl, rfl, rfl, ?_⟩
       · rw [md_row, md_row, (kp_ad _ i _ (by decide)).1, kpw.1]; exact hP
       · rw [md_row, md_row, (kp_ad _ i _ (by decide)).2 1 (by decide), kpw.2 1 (by decide)]; exact ht
       · rw [md_md, md_md]
         unfold md f_goOn f_over
         rw [if_pos c])
    | (have c := Int32.not_lt.mpr c12
       rw [md_row] at c
       refine go_2 _ hn hi ?_ ?_ ⟨Nat.le_refl _, Nat.le_refl _, rfl, rfl, rfl, ?_⟩
       · rw [md_row, kpw.1]; exact hP
       · rw [md_row, kpw.2 1 (by decide)]; exact ht
       · rw [md_md]
         unfold md f_goOn f_over
         rw [if_neg c])
  · refine wa_aload_n dX7_goOn_15 rfl ?_
    refine wa_iload_n dX7_goOn_16 rfl ?_
    refine wa_bipush (x := 9) dX7_goOn_17 (by decide) ?_
    refine wa_iconst (x := (-1)) dX7_goOn_19 (by decide) ?_
    refine c_VV dX7_goOn_20 (mm_add2 (w := 9) (by assumption) hi (by decide) _) lk_X7_64 rfl (isO_MO _ _ _) rfl (ltS (by assumption)) ?_
    first
    | (have c := Int32.not_le.mp c12
       rw [md_row] at c
       refine go_2 _ hn hi ?_ ?_ ⟨Nat.le_refl _, Nat.le_refl _, rfl, rfl, rfl, ?_⟩
       · rw [md_row, md_row, (kp_ad _ i _ (by decide)).1, kpw.1]; exact hP
       · rw [md_row, md_row, (kp_ad _ i _ (by decide)).2 1 (by decide), kpw.2 1 (by decide)]; exact ht
       · rw [md_md, md_md]
         unfold md f_goOn f_over
         rw [if_pos c])
    | (have c := Int32.not_lt.mpr c12
       rw [md_row] at c
       refine go_2 _ hn hi ?_ ?_ ⟨Nat.le_refl _, Nat.le_refl _, rfl, rfl, rfl, ?_⟩
       · rw [md_row, kpw.1]; exact hP
       · rw [md_row, kpw.2 1 (by decide)]; exact ht
       · rw [md_md]
         unfold md f_goOn f_over
         rw [if_neg c])
