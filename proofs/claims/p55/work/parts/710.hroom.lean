/-! ValveRoom$House: what it does with a room. Written by program (wip/whole/gen/m710.py) but for the heads. -/
theorem hh_tickOfDay {n : Nat} {S0 S : SS} {a r i : Nat} {g : Nat → Int32} (hn : 269 ≤ n) (h : LV S0 S a r g i) (h1 : 0 ≤ (g 1).toInt) : AM yX1_tickOfDay cX1_tickOfDay 1 (some .int) [] 0 0 0 [.ref a] n (Hp S) (PI (nI (tod g)) n S) := by
  intro has
  change WA RX1 cX1_tickOfDay 1 [] _ _ 0 0 0 [some (.ref a)] [] n _
  refine wa_aload_n dX1_tickOfDay_0 rfl ?_
  refine L_hd h hn 0 dX1_tickOfDay_1 fl_X1_31 (by decide) (by decide) (fun _ _ _ => rfl) ?_
  refine wa_bipush (x := 48) dX1_tickOfDay_4 (by decide) ?_
  refine wa_irem dX1_tickOfDay_6 (by decide) ?_
  exact wa_ireturn dX1_tickOfDay_7 ⟨Nat.le_refl _, Nat.le_refl _, ⟨_, rfl, rfl⟩, ri (rem48 h1), rfl, rfl⟩
theorem sub0 (x : Int32) : x - 0 = x := Int32.sub_zero x
theorem hh_targetOf {n : Nat} {S0 S : SS} {a r i : Nat} {g : Nat → Int32} (hn : 269 ≤ n) (h : LV S0 S a r g i) (h1 : 0 ≤ (g 1).toInt) (hp : of g i 6 = 0 ∨ of g i 6 = 1) : AM yX1_targetOf cX1_targetOf 3 (some .int) [] 1 0 0 [.ref a, .ref r] n (Hp S) (PI (tgt g i) n S) := by
  intro has
  change WA RX1 cX1_targetOf 3 [] _ _ 0 0 0 [some (.ref a), some (.ref r), none] [] n _
  refine wa_aload_n dX1_targetOf_0 rfl ?_
  refine L_n h hn 9 dX1_targetOf_1 fl_X1_83 (by decide) (fun _ _ _ => rfl) ?_
  refine wa_if_le 12 dX1_targetOf_4 rfl (fun c4 => ?_) (fun c4 => ?_)
  · refine wa_aload_n dX1_targetOf_12 rfl ?_
    refine wa_aload_n dX1_targetOf_13 rfl ?_
    refine c_VI dX1_targetOf_14 (hh_tickOfDay hn h h1) lk_X1_89 rfl (isH.HO h.H _ _ _) rfl (lt_HO h.H hn) ?_
    refine c_VI dX1_targetOf_17 (am_programmedAt h.R hn h.rp (t := tod g) (Nat.mod_lt _ (by decide))) lk_X1_93 rfl (isR.RO h.R _ _ _) rfl (lt_RO h.R hn) ?_
    refine wa_istore_n dX1_targetOf_20 rfl ?_
    refine wa_aload_n dX1_targetOf_21 rfl ?_
    refine L_n h hn 6 dX1_targetOf_22 fl_X1_97 (by decide) (fun _ _ _ => rfl) ?_
    refine wa_if_eq 32 dX1_targetOf_25 rfl (fun c25 => ?_) (fun c25 => ?_)
    · refine wa_iload_n dX1_targetOf_32 rfl ?_
      refine wa_aload_n dX1_targetOf_33 rfl ?_
      refine L_hd h hn 4 dX1_targetOf_34 fl_X1_44 (by decide) (by decide) (fun _ _ _ => rfl) ?_
      refine wa_isub dX1_targetOf_37 ?_
      first
      | exact wa_ireturn dX1_targetOf_38 ⟨Nat.le_refl _, Nat.le_refl _, ⟨_, rfl, rfl⟩, ri (show _ = tgt g i from (if_pos (Int32.not_le.mp c4)).symm), rfl, rfl⟩
      | exact wa_ireturn dX1_targetOf_38 ⟨Nat.le_refl _, Nat.le_refl _, ⟨_, rfl, rfl⟩, ri (by unfold tgt; rw [if_neg (Int32.not_lt.mpr c4), if_pos (hp.resolve_left c25), sub0]), rfl, rfl⟩
      | exact wa_ireturn dX1_targetOf_38 ⟨Nat.le_refl _, Nat.le_refl _, ⟨_, rfl, rfl⟩, ri (by unfold tgt; rw [if_neg (Int32.not_lt.mpr c4), if_neg (by rw [c25]; decide)]; rfl), rfl, rfl⟩
    · refine wa_iload_n dX1_targetOf_28 rfl ?_
      refine wa_goto 38 dX1_targetOf_29 rfl ?_
      first
      | exact wa_ireturn dX1_targetOf_38 ⟨Nat.le_refl _, Nat.le_refl _, ⟨_, rfl, rfl⟩, ri (show _ = tgt g i from (if_pos (Int32.not_le.mp c4)).symm), rfl, rfl⟩
      | exact wa_ireturn dX1_targetOf_38 ⟨Nat.le_refl _, Nat.le_refl _, ⟨_, rfl, rfl⟩, ri (by unfold tgt; rw [if_neg (Int32.not_lt.mpr c4), if_pos (hp.resolve_left c25), sub0]), rfl, rfl⟩
      | exact wa_ireturn dX1_targetOf_38 ⟨Nat.le_refl _, Nat.le_refl _, ⟨_, rfl, rfl⟩, ri (by unfold tgt; rw [if_neg (Int32.not_lt.mpr c4), if_neg (by rw [c25]; decide)]; rfl), rfl, rfl⟩
  · refine wa_aload_n dX1_targetOf_7 rfl ?_
    refine L_n h hn 8 dX1_targetOf_8 fl_X1_86 (by decide) (fun _ _ _ => rfl) ?_
    first
    | exact wa_ireturn dX1_targetOf_11 ⟨Nat.le_refl _, Nat.le_refl _, ⟨_, rfl, rfl⟩, ri (show _ = tgt g i from (if_pos (Int32.not_le.mp c4)).symm), rfl, rfl⟩
    | exact wa_ireturn dX1_targetOf_11 ⟨Nat.le_refl _, Nat.le_refl _, ⟨_, rfl, rfl⟩, ri (by unfold tgt; rw [if_neg (Int32.not_lt.mpr c4), if_pos (hp.resolve_left c25), sub0]), rfl, rfl⟩
    | exact wa_ireturn dX1_targetOf_11 ⟨Nat.le_refl _, Nat.le_refl _, ⟨_, rfl, rfl⟩, ri (by unfold tgt; rw [if_neg (Int32.not_lt.mpr c4), if_neg (by rw [c25]; decide)]; rfl), rfl, rfl⟩
theorem hh_missingTo {n : Nat} {S0 S : SS} {a r i : Nat} {g : Nat → Int32} (hn : 269 ≤ n) (h : LV S0 S a r g i) (h1 : 0 ≤ (g 1).toInt) (hp : of g i 6 = 0 ∨ of g i 6 = 1) : AM yX1_missingTo cX1_missingTo 2 (some .int) [] 2 0 0 [.ref a, .ref r] n (Hp S) (PI (mis g i) n S) := by
  intro has
  change WA RX1 cX1_missingTo 2 [] _ _ 0 0 0 [some (.ref a), some (.ref r)] [] n _
  refine wa_aload_n dX1_missingTo_0 rfl ?_
  refine wa_aload_n dX1_missingTo_1 rfl ?_
  refine c_VI dX1_missingTo_2 (hh_targetOf hn h h1 hp) lk_X1_101 rfl (isH.HO h.H _ _ _) rfl (lt_HO h.H hn) ?_
  refine wa_aload_n dX1_missingTo_5 rfl ?_
  refine L_n h hn 0 dX1_missingTo_6 fl_X1_105 (by decide) (fun _ _ _ => rfl) ?_
  refine wa_isub dX1_missingTo_9 ?_
  exact wa_ireturn dX1_missingTo_10 ⟨Nat.le_refl _, Nat.le_refl _, ⟨_, rfl, rfl⟩, rfl, rfl, rfl⟩
theorem i64_mul {x y : Int32} (h1 : -2147483648 ≤ x.toInt * y.toInt) (h2 : x.toInt * y.toInt ≤ 2147483647) : x.toInt64 * y.toInt64 = (x * y).toInt64 := by
  refine Int64.toInt_inj.mp ?_
  rw [Int64.toInt_mul, Int32.toInt_toInt64, Int32.toInt_toInt64, Int32.toInt_toInt64, i_mul h1 h2]
  exact Int.bmod_eq_of_le (by omega) (by omega)
theorem l_min_i (x y : Int64) : (l_min x y).toInt = min x.toInt y.toInt := by
  unfold l_min
  split
  · rename_i h; rw [Int64.lt_iff_toInt_lt] at h; omega
  · rename_i h; rw [Int64.lt_iff_toInt_lt] at h; omega
theorem l_max_i (x y : Int64) : (l_max x y).toInt = max x.toInt y.toInt := by
  unfold l_max
  split
  · rename_i h; rw [Int64.lt_iff_toInt_lt] at h; omega
  · rename_i h; rw [Int64.lt_iff_toInt_lt] at h; omega
theorem clamp_eq {x y : Int32} (h1 : -2147483648 ≤ x.toInt * y.toInt) (h2 : x.toInt * y.toInt ≤ 2147483647) : i_max 0 (i_min 100 (x * y)) = (l_max 0 (l_min 100 (x.toInt64 * y.toInt64))).toInt32 := by
  have e0 : (0 : Int64).toInt = 0 := by decide
  have e1 : (100 : Int64).toInt = 100 := by decide
  have e2 : (100 : Int32).toInt = 100 := by decide
  rw [i64_mul h1 h2]
  apply Int32.toInt_inj.mp
  rw [i_max_i, i_min_i, i_mul h1 h2, Int64.toInt_toInt32, l_max_i, l_min_i, Int32.toInt_toInt64, i_mul h1 h2, e0, e1, e2, Int32.toInt_zero]
  exact (Int.bmod_eq_of_le (by omega) (by omega)).symm
theorem wnt_i {g : Nat → Int32} {i : Nat} (hg : RG g i) (ho : OV g i) : 0 ≤ (wnt g i).toInt ∧ (wnt g i).toInt ≤ 100 := by
  unfold wnt
  split
  · decide
  · split
    · exact hg.1
    · have e2 : (100 : Int32).toInt = 100 := by decide
      rw [← clamp_eq ho.1 ho.2, i_max_i, i_min_i, e2, Int32.toInt_zero]
      omega
theorem hh_positionWanted {n : Nat} {S0 S : SS} {a r i : Nat} {g : Nat → Int32} (hn : 269 ≤ n) (h : LV S0 S a r g i) (h1 : 0 ≤ (g 1).toInt) (hg : RG g i) (ho : OV g i) : AM yX1_positionWanted cX1_positionWanted 3 (some .int) [] 2 0 0 [.ref a, .ref r] n (Hp S) (PI (wnt g i) n S) := by
  intro has
  change WA RX1 cX1_positionWanted 3 [] _ _ 0 0 0 [some (.ref a), some (.ref r), none] [] n _
  have hp := hg.2.2.2
  refine wa_aload_n dX1_positionWanted_0 rfl ?_
  refine L_n h hn 7 dX1_positionWanted_1 fl_X1_108 (by decide) (fun _ _ _ => rfl) ?_
  refine wa_if_le 9 dX1_positionWanted_4 rfl (fun c4 => ?_) (fun c4 => ?_)
  · refine wa_aload_n dX1_positionWanted_9 rfl ?_
    refine wa_aload_n dX1_positionWanted_10 rfl ?_
    refine c_VI dX1_positionWanted_11 (hh_targetOf hn h h1 hp) lk_X1_101 rfl (isH.HO h.H _ _ _) rfl (lt_HO h.H hn) ?_
    refine wa_aload_n dX1_positionWanted_14 rfl ?_
    refine L_n h hn 0 dX1_positionWanted_15 fl_X1_105 (by decide) (fun _ _ _ => rfl) ?_
    refine wa_isub dX1_positionWanted_18 ?_
    refine wa_istore_n dX1_positionWanted_19 rfl ?_
    refine wa_iload_n dX1_positionWanted_20 rfl ?_
    refine c_SI dX1_positionWanted_21 (am_abs _) lk_X1_111 rfl ?_
    refine wa_aload_n dX1_positionWanted_24 rfl ?_
    refine L_hd h hn 5 dX1_positionWanted_25 fl_X1_47 (by decide) (by decide) (fun _ _ _ => rfl) ?_
    refine wa_icmp_gt 36 dX1_positionWanted_28 rfl (fun c28 => ?_) (fun c28 => ?_)
    · refine wa_iconst (x := 0) dX1_positionWanted_36 (by decide) ?_
      refine wa_bipush (x := 100) dX1_positionWanted_37 (by decide) ?_
      refine wa_aload_n dX1_positionWanted_39 rfl ?_
      refine L_hd h hn 6 dX1_positionWanted_40 fl_X1_50 (by decide) (by decide) (fun _ _ _ => rfl) ?_
      refine wa_iload_n dX1_positionWanted_43 rfl ?_
      refine wa_imul dX1_positionWanted_44 ?_
      refine c_SI dX1_positionWanted_45 (am_min _ _) lk_X1_119 rfl ?_
      refine c_SI dX1_positionWanted_48 (am_max _ _) lk_X1_123 rfl ?_
      first
      | exact wa_ireturn dX1_positionWanted_51 ⟨Nat.le_refl _, Nat.le_refl _, ⟨_, rfl, rfl⟩, ri (show _ = wnt g i from (if_pos (Int32.not_le.mp c4)).symm), rfl, rfl⟩
      | exact wa_ireturn dX1_positionWanted_51 ⟨Nat.le_refl _, Nat.le_refl _, ⟨_, rfl, rfl⟩, ri (by unfold wnt; rw [if_neg (Int32.not_lt.mpr c4), if_pos (show i_abs (mis g i) ≤ g 7 from Int32.not_lt.mp c28)]), rfl, rfl⟩
      | exact wa_ireturn dX1_positionWanted_51 ⟨Nat.le_refl _, Nat.le_refl _, ⟨_, rfl, rfl⟩, ri (by unfold wnt; rw [if_neg (Int32.not_lt.mpr c4), if_neg (show ¬ i_abs (mis g i) ≤ g 7 from Int32.not_le.mpr c28)]; exact clamp_eq ho.1 ho.2), rfl, rfl⟩
    · refine wa_aload_n dX1_positionWanted_31 rfl ?_
      refine L_n h hn 1 dX1_positionWanted_32 fl_X1_116 (by decide) (fun _ _ _ => rfl) ?_
      first
      | exact wa_ireturn dX1_positionWanted_35 ⟨Nat.le_refl _, Nat.le_refl _, ⟨_, rfl, rfl⟩, ri (show _ = wnt g i from (if_pos (Int32.not_le.mp c4)).symm), rfl, rfl⟩
      | exact wa_ireturn dX1_positionWanted_35 ⟨Nat.le_refl _, Nat.le_refl _, ⟨_, rfl, rfl⟩, ri (by unfold wnt; rw [if_neg (Int32.not_lt.mpr c4), if_pos (show i_abs (mis g i) ≤ g 7 from Int32.not_lt.mp c28)]), rfl, rfl⟩
      | exact wa_ireturn dX1_positionWanted_35 ⟨Nat.le_refl _, Nat.le_refl _, ⟨_, rfl, rfl⟩, ri (by unfold wnt; rw [if_neg (Int32.not_lt.mpr c4), if_neg (show ¬ i_abs (mis g i) ≤ g 7 from Int32.not_le.mpr c28)]; exact clamp_eq ho.1 ho.2), rfl, rfl⟩
  · refine wa_iconst (x := 0) dX1_positionWanted_7 (by decide) ?_
    first
    | exact wa_ireturn dX1_positionWanted_8 ⟨Nat.le_refl _, Nat.le_refl _, ⟨_, rfl, rfl⟩, ri (show _ = wnt g i from (if_pos (Int32.not_le.mp c4)).symm), rfl, rfl⟩
    | exact wa_ireturn dX1_positionWanted_8 ⟨Nat.le_refl _, Nat.le_refl _, ⟨_, rfl, rfl⟩, ri (by unfold wnt; rw [if_neg (Int32.not_lt.mpr c4), if_pos (show i_abs (mis g i) ≤ g 7 from Int32.not_lt.mp c28)]), rfl, rfl⟩
    | exact wa_ireturn dX1_positionWanted_8 ⟨Nat.le_refl _, Nat.le_refl _, ⟨_, rfl, rfl⟩, ri (by unfold wnt; rw [if_neg (Int32.not_lt.mpr c4), if_neg (show ¬ i_abs (mis g i) ≤ g 7 from Int32.not_le.mpr c28)]; exact clamp_eq ho.1 ho.2), rfl, rfl⟩
theorem hh_carryOut_0 {n : Nat} {S0 S : SS} {a r i : Nat} {g : Nat → Int32} (hn : 269 ≤ n) (h : LV S0 S a r g i) : AM yX1_carryOut cX1_carryOut 3 none [] 0 0 0 [.ref a, .ref r, .int 0] n (Hp S) (PVe n (fun S' => LV S0 S' a r (f_carry i 0 g) i)) := by
  intro has
  change WA RX1 cX1_carryOut 3 [] _ _ 0 0 0 [some (.ref a), some (.ref r), some (.int 0)] [] n _
  refine wa_iload_n (x := 0) dX1_carryOut_0 rfl ?_
  refine wa_tableIn 28 dX1_carryOut_1 (by decide) (by decide) rfl rfl ?_
  refine wa_aload_n dX1_carryOut_28 rfl ?_
  refine wa_iconst (x := 1) dX1_carryOut_29 (by decide) ?_
  refine L_put h hn 5 dX1_carryOut_30 fl_X1_147 (by decide) rfl rfl rfl rfl (fun _ _ _ => rfl) (fun S1 h1 => ?_)
  refine wa_goto 57 dX1_carryOut_33 rfl ?_
  refine wa_aload_n dX1_carryOut_57 rfl ?_
  refine g_RO h1.R hn 12 dX1_carryOut_58 fl_X1_150 (by decide) rfl ?_
  refine wa_iconst (x := 3) dX1_carryOut_61 (by decide) ?_
  refine wa_dup2 dX1_carryOut_62 rfl rfl ?_
  refine L_cld h1 hn 3 rfl (by decide) dX1_carryOut_63 ?_
  refine wa_iconst (x := 1) dX1_carryOut_64 (by decide) ?_
  refine wa_iadd dX1_carryOut_65 ?_
  refine L_cst h1 hn 3 rfl (by decide) dX1_carryOut_66 (fun S2 h2 => ?_)
  exact wa_return dX1_carryOut_67 ⟨Nat.le_refl _, Nat.le_refl _, rfl, rfl, rfl, _, rfl, h2⟩
theorem hh_carryOut_1 {n : Nat} {S0 S : SS} {a r i : Nat} {g : Nat → Int32} (hn : 269 ≤ n) (h : LV S0 S a r g i) : AM yX1_carryOut cX1_carryOut 3 none [] 0 0 0 [.ref a, .ref r, .int 1] n (Hp S) (PVe n (fun S' => LV S0 S' a r (f_carry i 1 g) i)) := by
  intro has
  change WA RX1 cX1_carryOut 3 [] _ _ 0 0 0 [some (.ref a), some (.ref r), some (.int 1)] [] n _
  refine wa_iload_n (x := 1) dX1_carryOut_0 rfl ?_
  refine wa_tableIn 36 dX1_carryOut_1 (by decide) (by decide) rfl rfl ?_
  refine wa_aload_n dX1_carryOut_36 rfl ?_
  refine wa_iconst (x := 0) dX1_carryOut_37 (by decide) ?_
  refine L_put h hn 5 dX1_carryOut_38 fl_X1_147 (by decide) rfl rfl rfl rfl (fun _ _ _ => rfl) (fun S1 h1 => ?_)
  refine wa_goto 57 dX1_carryOut_41 rfl ?_
  refine wa_aload_n dX1_carryOut_57 rfl ?_
  refine g_RO h1.R hn 12 dX1_carryOut_58 fl_X1_150 (by decide) rfl ?_
  refine wa_iconst (x := 3) dX1_carryOut_61 (by decide) ?_
  refine wa_dup2 dX1_carryOut_62 rfl rfl ?_
  refine L_cld h1 hn 3 rfl (by decide) dX1_carryOut_63 ?_
  refine wa_iconst (x := 1) dX1_carryOut_64 (by decide) ?_
  refine wa_iadd dX1_carryOut_65 ?_
  refine L_cst h1 hn 3 rfl (by decide) dX1_carryOut_66 (fun S2 h2 => ?_)
  exact wa_return dX1_carryOut_67 ⟨Nat.le_refl _, Nat.le_refl _, rfl, rfl, rfl, _, rfl, h2⟩
theorem hh_carryOut_2 {n : Nat} {S0 S : SS} {a r i : Nat} {g : Nat → Int32} (hn : 269 ≤ n) (h : LV S0 S a r g i) : AM yX1_carryOut cX1_carryOut 3 none [] 0 0 0 [.ref a, .ref r, .int 2] n (Hp S) (PVe n (fun S' => LV S0 S' a r (f_carry i 2 g) i)) := by
  intro has
  change WA RX1 cX1_carryOut 3 [] _ _ 0 0 0 [some (.ref a), some (.ref r), some (.int 2)] [] n _
  refine wa_iload_n (x := 2) dX1_carryOut_0 rfl ?_
  refine wa_tableIn 44 dX1_carryOut_1 (by decide) (by decide) rfl rfl ?_
  refine wa_aload_n dX1_carryOut_44 rfl ?_
  refine wa_iconst (x := 1) dX1_carryOut_45 (by decide) ?_
  refine L_put h hn 6 dX1_carryOut_46 fl_X1_97 (by decide) rfl rfl rfl rfl (fun _ _ _ => rfl) (fun S1 h1 => ?_)
  refine wa_goto 57 dX1_carryOut_49 rfl ?_
  refine wa_aload_n dX1_carryOut_57 rfl ?_
  refine g_RO h1.R hn 12 dX1_carryOut_58 fl_X1_150 (by decide) rfl ?_
  refine wa_iconst (x := 3) dX1_carryOut_61 (by decide) ?_
  refine wa_dup2 dX1_carryOut_62 rfl rfl ?_
  refine L_cld h1 hn 3 rfl (by decide) dX1_carryOut_63 ?_
  refine wa_iconst (x := 1) dX1_carryOut_64 (by decide) ?_
  refine wa_iadd dX1_carryOut_65 ?_
  refine L_cst h1 hn 3 rfl (by decide) dX1_carryOut_66 (fun S2 h2 => ?_)
  exact wa_return dX1_carryOut_67 ⟨Nat.le_refl _, Nat.le_refl _, rfl, rfl, rfl, _, rfl, h2⟩
theorem hh_carryOut_3 {n : Nat} {S0 S : SS} {a r i : Nat} {g : Nat → Int32} (hn : 269 ≤ n) (h : LV S0 S a r g i) : AM yX1_carryOut cX1_carryOut 3 none [] 0 0 0 [.ref a, .ref r, .int 3] n (Hp S) (PVe n (fun S' => LV S0 S' a r (f_carry i 3 g) i)) := by
  intro has
  change WA RX1 cX1_carryOut 3 [] _ _ 0 0 0 [some (.ref a), some (.ref r), some (.int 3)] [] n _
  refine wa_iload_n (x := 3) dX1_carryOut_0 rfl ?_
  refine wa_tableOut 52 dX1_carryOut_1 (by decide) rfl ?_
  refine wa_aload_n dX1_carryOut_52 rfl ?_
  refine wa_iconst (x := 0) dX1_carryOut_53 (by decide) ?_
  refine L_put h hn 6 dX1_carryOut_54 fl_X1_97 (by decide) rfl rfl rfl rfl (fun _ _ _ => rfl) (fun S1 h1 => ?_)
  refine wa_aload_n dX1_carryOut_57 rfl ?_
  refine g_RO h1.R hn 12 dX1_carryOut_58 fl_X1_150 (by decide) rfl ?_
  refine wa_iconst (x := 3) dX1_carryOut_61 (by decide) ?_
  refine wa_dup2 dX1_carryOut_62 rfl rfl ?_
  refine L_cld h1 hn 3 rfl (by decide) dX1_carryOut_63 ?_
  refine wa_iconst (x := 1) dX1_carryOut_64 (by decide) ?_
  refine wa_iadd dX1_carryOut_65 ?_
  refine L_cst h1 hn 3 rfl (by decide) dX1_carryOut_66 (fun S2 h2 => ?_)
  exact wa_return dX1_carryOut_67 ⟨Nat.le_refl _, Nat.le_refl _, rfl, rfl, rfl, _, rfl, h2⟩
theorem sub1 (x : Int32) : x - 1 = x + -1 := Int32.sub_eq_add_neg x 1
theorem ct_tail {Q : ab_Q} {n : Nat} {S0 S : SS} {a r i : Nat} {g : Nat → Int32} {x2 : Int32} (l3 l4 l5 : Option Value) (hn : 269 ≤ n) (h2 : LV S0 S a r g i) (hQ : ∀ S', LV S0 S' a r (f_warm2 i x2 g) i → Q (.inl none) 0 0 n (Hp S')) : WA RX1 cX1_changeTemperature 6 [] (ab_rm 1 0 0) Q 0 0 66 [some (.ref a), some (.ref r), some (.int x2), l3, l4, l5] [] n (Hp S) := by
  refine wa_iload_n dX1_changeTemperature_66 rfl ?_
  refine wa_aload_n dX1_changeTemperature_67 rfl ?_
  refine L_n h2 hn 0 dX1_changeTemperature_68 fl_X1_105 (by decide) (fun _ _ _ => rfl) ?_
  refine wa_isub dX1_changeTemperature_71 ?_
  refine wa_aload_n dX1_changeTemperature_72 rfl ?_
  refine L_hd h2 hn 2 dX1_changeTemperature_73 fl_X1_38 (by decide) (by decide) (fun _ _ _ => rfl) ?_
  refine wa_icmp_lt 100 dX1_changeTemperature_76 rfl (fun c76 => ?_) (fun c76 => ?_)
  · refine wa_aload_n dX1_changeTemperature_100 rfl ?_
    refine L_n h2 hn 7 dX1_changeTemperature_101 fl_X1_108 (by decide) (fun _ _ _ => rfl) ?_
    refine wa_if_le 117 dX1_changeTemperature_104 rfl (fun c104 => ?_) (fun c104 => ?_)
    · first
      | exact wa_return dX1_changeTemperature_117 (hQ _ (by unfold f_warm2; rw [if_pos (show g 4 ≤ x2 - of g i 0 from Int32.not_lt.mp c76)]; exact h4))
      | exact wa_return dX1_changeTemperature_117 (hQ _ (by unfold f_warm2; rw [if_neg (show ¬ g 4 ≤ x2 - of g i 0 from Int32.not_le.mpr c76), if_pos (Int32.not_le.mp c104)]; exact h3))
      | exact wa_return dX1_changeTemperature_117 (hQ _ (by unfold f_warm2; rw [if_neg (show ¬ g 4 ≤ x2 - of g i 0 from Int32.not_le.mpr c76), if_neg (Int32.not_lt.mpr c104)]; exact h2))
    · refine wa_aload_n dX1_changeTemperature_107 rfl ?_
      refine wa_dup dX1_changeTemperature_108 rfl ?_
      refine L_n h2 hn 7 dX1_changeTemperature_109 fl_X1_108 (by decide) (fun _ _ _ => rfl) ?_
      refine wa_iconst (x := 1) dX1_changeTemperature_112 (by decide) ?_
      refine wa_isub dX1_changeTemperature_113 ?_
      rw [sub1]
      refine L_put h2 hn 7 dX1_changeTemperature_114 fl_X1_108 (by decide) rfl rfl rfl rfl (fun _ _ _ => rfl) (fun S3 h3 => ?_)
      first
      | exact wa_return dX1_changeTemperature_117 (hQ _ (by unfold f_warm2; rw [if_pos (show g 4 ≤ x2 - of g i 0 from Int32.not_lt.mp c76)]; exact h4))
      | exact wa_return dX1_changeTemperature_117 (hQ _ (by unfold f_warm2; rw [if_neg (show ¬ g 4 ≤ x2 - of g i 0 from Int32.not_le.mpr c76), if_pos (Int32.not_le.mp c104)]; exact h3))
      | exact wa_return dX1_changeTemperature_117 (hQ _ (by unfold f_warm2; rw [if_neg (show ¬ g 4 ≤ x2 - of g i 0 from Int32.not_le.mpr c76), if_neg (Int32.not_lt.mpr c104)]; exact h2))
  · refine wa_aload_n dX1_changeTemperature_79 rfl ?_
    refine wa_aload_n dX1_changeTemperature_80 rfl ?_
    refine L_hd h2 hn 3 dX1_changeTemperature_81 fl_X1_41 (by decide) (by decide) (fun _ _ _ => rfl) ?_
    refine L_put h2 hn 7 dX1_changeTemperature_84 fl_X1_108 (by decide) rfl rfl rfl rfl (fun _ _ _ => rfl) (fun S3 h3 => ?_)
    refine wa_aload_n dX1_changeTemperature_87 rfl ?_
    refine g_RO h3.R hn 12 dX1_changeTemperature_88 fl_X1_150 (by decide) rfl ?_
    refine wa_iconst (x := 1) dX1_changeTemperature_91 (by decide) ?_
    refine wa_dup2 dX1_changeTemperature_92 rfl rfl ?_
    refine L_cld h3 hn 1 rfl (by decide) dX1_changeTemperature_93 ?_
    refine wa_iconst (x := 1) dX1_changeTemperature_94 (by decide) ?_
    refine wa_iadd dX1_changeTemperature_95 ?_
    refine L_cst h3 hn 1 rfl (by decide) dX1_changeTemperature_96 (fun S4 h4 => ?_)
    refine wa_goto 117 dX1_changeTemperature_97 rfl ?_
    first
    | exact wa_return dX1_changeTemperature_117 (hQ _ (by unfold f_warm2; rw [if_pos (show g 4 ≤ x2 - of g i 0 from Int32.not_lt.mp c76)]; exact h4))
    | exact wa_return dX1_changeTemperature_117 (hQ _ (by unfold f_warm2; rw [if_neg (show ¬ g 4 ≤ x2 - of g i 0 from Int32.not_le.mpr c76), if_pos (Int32.not_le.mp c104)]; exact h3))
    | exact wa_return dX1_changeTemperature_117 (hQ _ (by unfold f_warm2; rw [if_neg (show ¬ g 4 ≤ x2 - of g i 0 from Int32.not_le.mpr c76), if_neg (Int32.not_lt.mpr c104)]; exact h2))
theorem hh_changeTemperature {n : Nat} {S0 S : SS} {a r i : Nat} {g : Nat → Int32} (hn : 269 ≤ n) (h : LV S0 S a r g i) (hp : of g i 5 = 0 ∨ of g i 5 = 1) : AM yX1_changeTemperature cX1_changeTemperature 6 none [] 1 0 0 [.ref a, .ref r] n (Hp S) (PVe n (fun S' => LV S0 S' a r (f_warm i g) i)) := by
  intro has
  change WA RX1 cX1_changeTemperature 6 [] _ _ 0 0 0 [some (.ref a), some (.ref r), none, none, none, none] [] n _
  refine wa_aload_n dX1_changeTemperature_0 rfl ?_
  refine L_n h hn 0 dX1_changeTemperature_1 fl_X1_105 (by decide) (fun _ _ _ => rfl) ?_
  refine wa_istore_n dX1_changeTemperature_4 rfl ?_
  refine wa_aload_n dX1_changeTemperature_5 rfl ?_
  refine L_n h hn 4 dX1_changeTemperature_6 fl_X1_171 (by decide) (fun _ _ _ => rfl) ?_
  refine wa_aload_n dX1_changeTemperature_9 rfl ?_
  refine L_n h hn 5 dX1_changeTemperature_10 fl_X1_147 (by decide) (fun _ _ _ => rfl) ?_
  refine wa_if_eq 21 dX1_changeTemperature_13 rfl (fun c13 => ?_) (fun c13 => ?_)
  · refine wa_iconst (x := 0) dX1_changeTemperature_21 (by decide) ?_
    refine wa_iadd dX1_changeTemperature_22 ?_
    refine wa_istore_n dX1_changeTemperature_23 rfl ?_
    refine wa_aload_n dX1_changeTemperature_24 rfl ?_
    refine L_n h hn 1 dX1_changeTemperature_25 fl_X1_116 (by decide) (fun _ _ _ => rfl) ?_
    refine wa_aload_n dX1_changeTemperature_28 rfl ?_
    refine L_n h hn 3 dX1_changeTemperature_29 fl_X1_174 (by decide) (fun _ _ _ => rfl) ?_
    refine wa_imul dX1_changeTemperature_32 ?_
    refine wa_bipush (x := 100) dX1_changeTemperature_33 (by decide) ?_
    refine c_SI dX1_changeTemperature_35 (am_fdiv2 _ 100 (by decide)) lk_X1_177 rfl ?_
    refine wa_istore dX1_changeTemperature_38 rfl ?_
    refine wa_iload_n dX1_changeTemperature_40 rfl ?_
    refine wa_iload_n dX1_changeTemperature_41 rfl ?_
    refine wa_aload_n dX1_changeTemperature_42 rfl ?_
    refine L_hd h hn 1 dX1_changeTemperature_43 fl_X1_35 (by decide) (by decide) (fun _ _ _ => rfl) ?_
    refine wa_isub dX1_changeTemperature_46 ?_
    refine wa_imul dX1_changeTemperature_47 ?_
    refine wa_bipush (x := 100) dX1_changeTemperature_48 (by decide) ?_
    refine c_SI dX1_changeTemperature_50 (am_fdiv2 _ 100 (by decide)) lk_X1_177 rfl ?_
    refine wa_istore dX1_changeTemperature_53 rfl ?_
    refine wa_aload_n dX1_changeTemperature_55 rfl ?_
    refine wa_iload_n dX1_changeTemperature_56 rfl ?_
    refine wa_iload dX1_changeTemperature_57 rfl ?_
    refine wa_iadd dX1_changeTemperature_59 ?_
    refine wa_iload dX1_changeTemperature_60 rfl ?_
    refine wa_isub dX1_changeTemperature_62 ?_
    refine L_put h hn 0 dX1_changeTemperature_63 fl_X1_105 (by decide) rfl rfl rfl rfl (fun _ _ _ => rfl) (fun S1 h1 => ?_)
    first
    | (have e5 : (if of g i 5 = 1 then (10 : Int32) else 0) = 10 := if_pos (hp.resolve_left c13)
       refine ct_tail _ _ _ hn h1 (fun S' h' => ⟨Nat.le_refl _, Nat.le_refl _, rfl, rfl, rfl, _, rfl, ?_⟩)
       show LV S0 S' a r (f_warm2 i (of g i 0) (f_warm1 i g)) i
       unfold f_warm1
       rw [e5]
       exact h')
    | (have e5 : (if of g i 5 = 1 then (10 : Int32) else 0) = 0 := if_neg (by rw [c13]; decide)
       refine ct_tail _ _ _ hn h1 (fun S' h' => ⟨Nat.le_refl _, Nat.le_refl _, rfl, rfl, rfl, _, rfl, ?_⟩)
       show LV S0 S' a r (f_warm2 i (of g i 0) (f_warm1 i g)) i
       unfold f_warm1
       rw [e5]
       exact h')
  · refine wa_bipush (x := 10) dX1_changeTemperature_16 (by decide) ?_
    refine wa_goto 22 dX1_changeTemperature_18 rfl ?_
    refine wa_iadd dX1_changeTemperature_22 ?_
    refine wa_istore_n dX1_changeTemperature_23 rfl ?_
    refine wa_aload_n dX1_changeTemperature_24 rfl ?_
    refine L_n h hn 1 dX1_changeTemperature_25 fl_X1_116 (by decide) (fun _ _ _ => rfl) ?_
    refine wa_aload_n dX1_changeTemperature_28 rfl ?_
    refine L_n h hn 3 dX1_changeTemperature_29 fl_X1_174 (by decide) (fun _ _ _ => rfl) ?_
    refine wa_imul dX1_changeTemperature_32 ?_
    refine wa_bipush (x := 100) dX1_changeTemperature_33 (by decide) ?_
    refine c_SI dX1_changeTemperature_35 (am_fdiv2 _ 100 (by decide)) lk_X1_177 rfl ?_
    refine wa_istore dX1_changeTemperature_38 rfl ?_
    refine wa_iload_n dX1_changeTemperature_40 rfl ?_
    refine wa_iload_n dX1_changeTemperature_41 rfl ?_
    refine wa_aload_n dX1_changeTemperature_42 rfl ?_
    refine L_hd h hn 1 dX1_changeTemperature_43 fl_X1_35 (by decide) (by decide) (fun _ _ _ => rfl) ?_
    refine wa_isub dX1_changeTemperature_46 ?_
    refine wa_imul dX1_changeTemperature_47 ?_
    refine wa_bipush (x := 100) dX1_changeTemperature_48 (by decide) ?_
    refine c_SI dX1_changeTemperature_50 (am_fdiv2 _ 100 (by decide)) lk_X1_177 rfl ?_
    refine wa_istore dX1_changeTemperature_53 rfl ?_
    refine wa_aload_n dX1_changeTemperature_55 rfl ?_
    refine wa_iload_n dX1_changeTemperature_56 rfl ?_
    refine wa_iload dX1_changeTemperature_57 rfl ?_
    refine wa_iadd dX1_changeTemperature_59 ?_
    refine wa_iload dX1_changeTemperature_60 rfl ?_
    refine wa_isub dX1_changeTemperature_62 ?_
    refine L_put h hn 0 dX1_changeTemperature_63 fl_X1_105 (by decide) rfl rfl rfl rfl (fun _ _ _ => rfl) (fun S1 h1 => ?_)
    first
    | (have e5 : (if of g i 5 = 1 then (10 : Int32) else 0) = 10 := if_pos (hp.resolve_left c13)
       refine ct_tail _ _ _ hn h1 (fun S' h' => ⟨Nat.le_refl _, Nat.le_refl _, rfl, rfl, rfl, _, rfl, ?_⟩)
       show LV S0 S' a r (f_warm2 i (of g i 0) (f_warm1 i g)) i
       unfold f_warm1
       rw [e5]
       exact h')
    | (have e5 : (if of g i 5 = 1 then (10 : Int32) else 0) = 0 := if_neg (by rw [c13]; decide)
       refine ct_tail _ _ _ hn h1 (fun S' h' => ⟨Nat.le_refl _, Nat.le_refl _, rfl, rfl, rfl, _, rfl, ?_⟩)
       show LV S0 S' a r (f_warm2 i (of g i 0) (f_warm1 i g)) i
       unfold f_warm1
       rw [e5]
       exact h')

