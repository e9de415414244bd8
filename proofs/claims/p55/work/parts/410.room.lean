/-! ValveRoom$Room. Written by program (wip/whole/gen/m410.py) but for the heads. -/
/-- how many steps a valve is driven; what is so then -/
def drN (S : SS) (r : Nat) (p m : Int32) : Int32 := i_min (i_min (i_abs (p - S.1 r 2)) m) (S.1 r 3)
def drS (S : SS) (r : Nat) (p m : Int32) : SS := ss (ss (ss S r 2 (S.1 r 2 + if S.1 r 2 < p then drN S r p m else -drN S r p m)) r 3 (S.1 r 3 - drN S r p m)) (r + 1) 0 (S.1 (r + 1) 0 + drN S r p m)
theorem am_drive {n r : Nat} {S : SS} (hr : isR r) (hn : 269 ≤ n) (p m : Int32) : AM yX4_drive cX4_drive 4 (some .int) [] 1 0 0 [.ref r, .int p, .int m] n (Hp S) (PI (drN S r p m) n (drS S r p m)) := by
  intro has
  change WA RX4 cX4_drive 4 [] _ _ 0 0 0 [some (.ref r), some (.int p), some (.int m), none] [] n _
  refine wa_iload_n dX4_drive_0 rfl ?_
  refine wa_aload_n dX4_drive_1 rfl ?_
  refine g_RO (by assumption) (by assumption) 2 dX4_drive_2 fl_X4_28 (by decide) rfl ?_
  refine wa_isub dX4_drive_5 ?_
  refine c_SI dX4_drive_6 (am_abs _) lk_X4_76 rfl ?_
  refine wa_iload_n dX4_drive_9 rfl ?_
  refine c_SI dX4_drive_10 (am_min _ _) lk_X4_81 rfl ?_
  refine wa_aload_n dX4_drive_13 rfl ?_
  refine g_RO (by assumption) (by assumption) 3 dX4_drive_14 fl_X4_31 (by decide) rfl ?_
  refine c_SI dX4_drive_17 (am_min _ _) lk_X4_81 rfl ?_
  refine wa_istore_n dX4_drive_20 rfl ?_
  refine wa_aload_n dX4_drive_21 rfl ?_
  refine wa_dup dX4_drive_22 rfl ?_
  refine g_RO (by assumption) (by assumption) 2 dX4_drive_23 fl_X4_28 (by decide) rfl ?_
  refine wa_iload_n dX4_drive_26 rfl ?_
  refine wa_aload_n dX4_drive_27 rfl ?_
  refine g_RO (by assumption) (by assumption) 2 dX4_drive_28 fl_X4_28 (by decide) rfl ?_
  refine wa_icmp_le 38 dX4_drive_31 rfl (fun c31 => ?_) (fun c31 => ?_)
  · refine wa_iload_n dX4_drive_38 rfl ?_
    refine wa_ineg dX4_drive_39 ?_
    refine wa_iadd dX4_drive_40 ?_
    refine p_RO (by assumption) (by assumption) 2 dX4_drive_41 fl_X4_28 (by decide) rfl rfl rfl rfl (fun _ _ _ => rfl) (Nat.le_of_ble_eq_true rfl) ?_
    refine wa_aload_n dX4_drive_44 rfl ?_
    refine wa_dup dX4_drive_45 rfl ?_
    refine g_RO (by assumption) (by assumption) 3 dX4_drive_46 fl_X4_31 (by decide) rfl ?_
    refine wa_iload_n dX4_drive_49 rfl ?_
    refine wa_isub dX4_drive_50 ?_
    refine p_RO (by assumption) (by assumption) 3 dX4_drive_51 fl_X4_31 (by decide) rfl rfl rfl rfl (fun _ _ _ => rfl) (Nat.le_of_ble_eq_true rfl) ?_
    refine wa_aload_n dX4_drive_54 rfl ?_
    refine g_RO (by assumption) (by assumption) 12 dX4_drive_55 fl_X4_17 (by decide) rfl ?_
    refine wa_iconst (x := 0) dX4_drive_58 (by decide) ?_
    refine wa_dup2 dX4_drive_59 rfl rfl ?_
    refine s_iald (j := 0) (isR.cnt (by assumption)) dX4_drive_60 (lt_R1 (by assumption) (by assumption)) rfl (by decide) ?_
    refine wa_iload_n dX4_drive_61 rfl ?_
    refine wa_iadd dX4_drive_62 ?_
    refine s_iast (j := 0) (isR.cnt (by assumption)) dX4_drive_63 (lt_R1 (by assumption) (by assumption)) rfl (by decide) ?_
    refine wa_iload_n dX4_drive_64 rfl ?_
    exact wa_ireturn dX4_drive_65 ⟨Nat.le_refl _, Nat.le_refl _, ⟨_, rfl, rfl⟩, rfl, rfl, congrArg Hp (by first | (simp [drS, drN, ss_1, if_neg (Int32.not_lt.mpr c31)]; done) | (simp [drS, drN, ss_1, if_pos (Int32.not_le.mp c31)]; done))⟩
  · refine wa_iload_n dX4_drive_34 rfl ?_
    refine wa_goto 40 dX4_drive_35 rfl ?_
    refine wa_iadd dX4_drive_40 ?_
    refine p_RO (by assumption) (by assumption) 2 dX4_drive_41 fl_X4_28 (by decide) rfl rfl rfl rfl (fun _ _ _ => rfl) (Nat.le_of_ble_eq_true rfl) ?_
    refine wa_aload_n dX4_drive_44 rfl ?_
    refine wa_dup dX4_drive_45 rfl ?_
    refine g_RO (by assumption) (by assumption) 3 dX4_drive_46 fl_X4_31 (by decide) rfl ?_
    refine wa_iload_n dX4_drive_49 rfl ?_
    refine wa_isub dX4_drive_50 ?_
    refine p_RO (by assumption) (by assumption) 3 dX4_drive_51 fl_X4_31 (by decide) rfl rfl rfl rfl (fun _ _ _ => rfl) (Nat.le_of_ble_eq_true rfl) ?_
    refine wa_aload_n dX4_drive_54 rfl ?_
    refine g_RO (by assumption) (by assumption) 12 dX4_drive_55 fl_X4_17 (by decide) rfl ?_
    refine wa_iconst (x := 0) dX4_drive_58 (by decide) ?_
    refine wa_dup2 dX4_drive_59 rfl rfl ?_
    refine s_iald (j := 0) (isR.cnt (by assumption)) dX4_drive_60 (lt_R1 (by assumption) (by assumption)) rfl (by decide) ?_
    refine wa_iload_n dX4_drive_61 rfl ?_
    refine wa_iadd dX4_drive_62 ?_
    refine s_iast (j := 0) (isR.cnt (by assumption)) dX4_drive_63 (lt_R1 (by assumption) (by assumption)) rfl (by decide) ?_
    refine wa_iload_n dX4_drive_64 rfl ?_
    exact wa_ireturn dX4_drive_65 ⟨Nat.le_refl _, Nat.le_refl _, ⟨_, rfl, rfl⟩, rfl, rfl, congrArg Hp (by first | (simp [drS, drN, ss_1, if_neg (Int32.not_lt.mpr c31)]; done) | (simp [drS, drN, ss_1, if_pos (Int32.not_le.mp c31)]; done))⟩
def drX1 (S : SS) (r : Nat) : SS := drS S r 100 100
def drX2 (S : SS) (r : Nat) : SS := drS (drX1 S r) r 0 100
def drX3 (S : SS) (r : Nat) : SS := drS (drX2 S r) r (S.1 r 2) 100
def drX (S : SS) (r : Nat) : SS := ss (drX3 S r) (r + 1) 2 ((drX3 S r).1 (r + 1) 2 + 1)
def drXN (S : SS) (r : Nat) : Int32 := drN S r 100 100 + drN (drX1 S r) r 0 100 + drN (drX2 S r) r (S.1 r 2) 100
theorem am_driveX {n r : Nat} {S : SS} (hr : isR r) (hn : 269 ≤ n) : AM yX4_driveForExercise cX4_driveForExercise 3 (some .int) [] 2 0 0 [.ref r] n (Hp S) (PI (drXN S r) n (drX S r)) := by
  intro has
  change WA RX4 cX4_driveForExercise 3 [] _ _ 0 0 0 [some (.ref r), none, none] [] n _
  refine wa_aload_n dX4_driveForExercise_0 rfl ?_
  refine g_RO (by assumption) (by assumption) 2 dX4_driveForExercise_1 fl_X4_28 (by decide) rfl ?_
  refine wa_istore_n dX4_driveForExercise_4 rfl ?_
  refine wa_aload_n dX4_driveForExercise_5 rfl ?_
  refine wa_bipush (x := 100) dX4_driveForExercise_6 (by decide) ?_
  refine wa_bipush (x := 100) dX4_driveForExercise_8 (by decide) ?_
  refine c_VI dX4_driveForExercise_10 (am_drive (by assumption) (by assumption) _ _) lk_X4_85 rfl (isR.RO (by assumption) _ _ _) rfl (lt_RO (by assumption) (by assumption)) ?_
  refine wa_istore_n dX4_driveForExercise_13 rfl ?_
  refine wa_iload_n dX4_driveForExercise_14 rfl ?_
  refine wa_aload_n dX4_driveForExercise_15 rfl ?_
  refine wa_iconst (x := 0) dX4_driveForExercise_16 (by decide) ?_
  refine wa_bipush (x := 100) dX4_driveForExercise_17 (by decide) ?_
  refine c_VI dX4_driveForExercise_19 (am_drive (by assumption) (by assumption) _ _) lk_X4_85 rfl (isR.RO (by assumption) _ _ _) rfl (lt_RO (by assumption) (by assumption)) ?_
  refine wa_iadd dX4_driveForExercise_22 ?_
  refine wa_istore_n dX4_driveForExercise_23 rfl ?_
  refine wa_iload_n dX4_driveForExercise_24 rfl ?_
  refine wa_aload_n dX4_driveForExercise_25 rfl ?_
  refine wa_iload_n dX4_driveForExercise_26 rfl ?_
  refine wa_bipush (x := 100) dX4_driveForExercise_27 (by decide) ?_
  refine c_VI dX4_driveForExercise_29 (am_drive (by assumption) (by assumption) _ _) lk_X4_85 rfl (isR.RO (by assumption) _ _ _) rfl (lt_RO (by assumption) (by assumption)) ?_
  refine wa_iadd dX4_driveForExercise_32 ?_
  refine wa_istore_n dX4_driveForExercise_33 rfl ?_
  refine wa_aload_n dX4_driveForExercise_34 rfl ?_
  refine g_RO (by assumption) (by assumption) 12 dX4_driveForExercise_35 fl_X4_17 (by decide) rfl ?_
  refine wa_iconst (x := 2) dX4_driveForExercise_38 (by decide) ?_
  refine wa_dup2 dX4_driveForExercise_39 rfl rfl ?_
  refine s_iald (j := 2) (isR.cnt (by assumption)) dX4_driveForExercise_40 (lt_R1 (by assumption) (by assumption)) rfl (by decide) ?_
  refine wa_iconst (x := 1) dX4_driveForExercise_41 (by decide) ?_
  refine wa_iadd dX4_driveForExercise_42 ?_
  refine s_iast (j := 2) (isR.cnt (by assumption)) dX4_driveForExercise_43 (lt_R1 (by assumption) (by assumption)) rfl (by decide) ?_
  refine wa_iload_n dX4_driveForExercise_44 rfl ?_
  exact wa_ireturn dX4_driveForExercise_45 ⟨Nat.le_refl _, Nat.le_refl _, ⟨_, rfl, rfl⟩, rfl, rfl, rfl⟩
theorem lp_placeOf {R : Room} {Q : ab_Q} {k z n r : Nat} {S : SS} {P : Nat → Int32} {t : Nat} (hr : isR r) (hn : 269 ≤ n) (hP : RP S r P) (ht : t ≤ 100000) (hQ : Q (.inl (some (.int (nI (cnt P t))))) k z n (Hp S)) :
    ∀ m i, i + m = cnt P t → WA RX4 cX4_placeOf 3 [] R Q k z 2 [some (.ref r), some (.int (nI t)), some (.int (nI i))] [] n (Hp S) := by
  have hc := cnt_48 hP.1 t
  have hc2 := cnt_le P 48
  intro m
  induction m with
  | zero =>
    intro i him
    have hi : i = cnt P t := by omega
    subst hi
    refine wa_iload_n dX4_placeOf_2 rfl ?_
    refine wa_aload_n dX4_placeOf_3 rfl ?_
    refine g_RO (by assumption) (by assumption) 14 dX4_placeOf_4 fl_X4_65 (by decide) rfl ?_
    refine wa_icmp_ge 30 dX4_placeOf_7 rfl (fun c7 => ?_) (fun c7 => ?_)
    · refine wa_iload_n dX4_placeOf_30 rfl ?_
      exact wa_ireturn dX4_placeOf_31 hQ
    have hlt : cnt P t < cnt P 48 := by
      rcases Nat.lt_or_ge (cnt P t) (cnt P 48) with q | q
      · exact q
      · exact absurd (by show S.1 r 14 ≤ nI (cnt P t); rw [hP.2.1]; exact nI_le q (by omega)) c7
    refine wa_aload_n dX4_placeOf_10 rfl ?_
    refine g_RO (by assumption) (by assumption) 13 dX4_placeOf_11 fl_X4_21 (by decide) rfl ?_
    refine wa_iload_n dX4_placeOf_14 rfl ?_
    refine s_iald (j := cnt P t) (isR.prg (by assumption)) dX4_placeOf_15 (lt_R2 (by assumption) (by assumption)) (nI_toInt (by omega)) (by omega) ?_
    refine wa_iload_n dX4_placeOf_16 rfl ?_
    refine wa_sipush (x := 1000) dX4_placeOf_17 (by decide) ?_
    refine wa_imul dX4_placeOf_20 ?_
    refine wa_icmp_ge 30 dX4_placeOf_21 rfl (fun c21 => ?_) (fun c21 => absurd ((hP.lt hlt (by omega)).mp (Int32.not_le.mp c21)) (by omega))
    refine wa_iload_n dX4_placeOf_30 rfl ?_
    exact wa_ireturn dX4_placeOf_31 hQ
  | succ m ih =>
    intro i him
    have hlt : i < cnt P 48 := by omega
    refine wa_iload_n dX4_placeOf_2 rfl ?_
    refine wa_aload_n dX4_placeOf_3 rfl ?_
    refine g_RO (by assumption) (by assumption) 14 dX4_placeOf_4 fl_X4_65 (by decide) rfl ?_
    refine wa_icmp_ge 30 dX4_placeOf_7 rfl (fun c7 => absurd c7 (by show ¬ S.1 r 14 ≤ nI i; rw [hP.2.1]; exact nI_ge hlt (by omega))) (fun c7 => ?_)
    refine wa_aload_n dX4_placeOf_10 rfl ?_
    refine g_RO (by assumption) (by assumption) 13 dX4_placeOf_11 fl_X4_21 (by decide) rfl ?_
    refine wa_iload_n dX4_placeOf_14 rfl ?_
    refine s_iald (j := i) (isR.prg (by assumption)) dX4_placeOf_15 (lt_R2 (by assumption) (by assumption)) (nI_toInt (by omega)) (by omega) ?_
    refine wa_iload_n dX4_placeOf_16 rfl ?_
    refine wa_sipush (x := 1000) dX4_placeOf_17 (by decide) ?_
    refine wa_imul dX4_placeOf_20 ?_
    refine wa_icmp_ge 30 dX4_placeOf_21 rfl (fun c21 => absurd ((hP.lt hlt (by omega)).mpr (by omega)) (Int32.not_lt.mpr c21)) (fun c21 => ?_)
    refine wa_iinc (y := 1) dX4_placeOf_24 rfl (by decide) rfl ?_
    refine wa_goto 2 dX4_placeOf_27 rfl ?_
    have e : nI i + 1 = nI (i + 1) := nI_1 i
    rw [e]
    exact ih (i + 1) (by omega)
theorem am_placeOf {n r : Nat} {S : SS} {P : Nat → Int32} {t : Nat} (hr : isR r) (hn : 269 ≤ n) (hP : RP S r P) (ht : t ≤ 100000) : AM yX4_placeOf cX4_placeOf 3 (some .int) [] 0 0 0 [.ref r, .int (nI t)] n (Hp S) (PI (nI (cnt P t)) n S) := by
  intro has
  change WA RX4 cX4_placeOf 3 [] _ _ 0 0 0 [some (.ref r), some (.int (nI t)), none] [] n _
  refine wa_iconst (x := 0) dX4_placeOf_0 (by decide) ?_
  refine wa_istore_n dX4_placeOf_1 rfl ?_
  exact lp_placeOf hr hn hP ht ⟨Nat.le_refl _, Nat.le_refl _, ⟨_, rfl, rfl⟩, rfl, rfl, rfl⟩ (cnt P t) 0 (by omega)
theorem am_isEntryOf {n r : Nat} {S : SS} {P : Nat → Int32} {t : Nat} (hr : isR r) (hn : 269 ≤ n) (hP : RP S r P) (ht : t ≤ 100000) : AM yX4_isEntryOf cX4_isEntryOf 3 (some .boolean) [] 0 0 0 [.ref r, .int (nI t), .int (nI (cnt P t))] n (Hp S) (PI (if P t = 0 then 0 else 1) n S) := by
  intro has
  change WA RX4 cX4_isEntryOf 3 [] _ _ 0 0 0 [some (.ref r), some (.int (nI t)), some (.int (nI (cnt P t)))] [] n _
  have hc := cnt_48 hP.1 t
  have hc2 := cnt_le P 48
  refine wa_iload_n dX4_isEntryOf_0 rfl ?_
  refine wa_aload_n dX4_isEntryOf_1 rfl ?_
  refine g_RO (by assumption) (by assumption) 14 dX4_isEntryOf_2 fl_X4_65 (by decide) rfl ?_
  refine wa_icmp_ge 26 dX4_isEntryOf_5 rfl (fun c5 => ?_) (fun c5 => ?_)
  · have h0 : P t = 0 := Classical.byContradiction (fun z => c5 |> fun c => by
      have hlt := cnt_lt P (cnt_eq48 hP.1 z) z
      have c9 : S.1 r 14 ≤ nI (cnt P t) := c
      rw [hP.2.1] at c9
      exact nI_ge hlt (by omega) c9)
    refine wa_iconst (x := 0) dX4_isEntryOf_26 (by decide) ?_
    exact wa_ireturn dX4_isEntryOf_27 ⟨Nat.le_refl _, Nat.le_refl _, ⟨_, rfl, rfl⟩, by rw [if_pos h0], rfl, rfl⟩
  have hlt : cnt P t < cnt P 48 := by
    rcases Nat.lt_or_ge (cnt P t) (cnt P 48) with q | q
    · exact q
    · exact absurd (by show S.1 r 14 ≤ nI (cnt P t); rw [hP.2.1]; exact nI_le q (by omega)) c5
  obtain ⟨s, hs1, hs2, hs3, hs4⟩ := hP.at hlt
  have hq := (hP.1.q hs1 hs2).1
  refine wa_aload_n dX4_isEntryOf_8 rfl ?_
  refine g_RO (by assumption) (by assumption) 13 dX4_isEntryOf_9 fl_X4_21 (by decide) rfl ?_
  refine wa_iload_n dX4_isEntryOf_12 rfl ?_
  refine s_iald (j := cnt P t) (isR.prg (by assumption)) dX4_isEntryOf_13 (lt_R2 (by assumption) (by assumption)) (nI_toInt (by omega)) (by omega) ?_
  rw [hs4]
  refine wa_sipush (x := 1000) dX4_isEntryOf_14 (by decide) ?_
  refine wa_idiv dX4_isEntryOf_17 (by decide) ?_
  refine wa_iload_n dX4_isEntryOf_18 rfl ?_
  refine wa_icmp_ne 26 dX4_isEntryOf_19 rfl (fun c19 => ?_) (fun c19 => ?_)
  · have h0 : P t = 0 := Classical.byContradiction (fun z => c19 (by rw [hq, cnt_inj hs2 z hs3]))
    refine wa_iconst (x := 0) dX4_isEntryOf_26 (by decide) ?_
    exact wa_ireturn dX4_isEntryOf_27 ⟨Nat.le_refl _, Nat.le_refl _, ⟨_, rfl, rfl⟩, by rw [if_pos h0], rfl, rfl⟩
  have h0 : ¬ P t = 0 := by
    rw [hq] at c19
    have : s = t := (nI_eq (by omega) (by omega)).mp c19
    rw [← this]; exact hs2
  refine wa_iconst (x := 1) dX4_isEntryOf_22 (by decide) ?_
  refine wa_goto 27 dX4_isEntryOf_23 rfl ?_
  exact wa_ireturn dX4_isEntryOf_27 ⟨Nat.le_refl _, Nat.le_refl _, ⟨_, rfl, rfl⟩, by rw [if_neg h0], rfl, rfl⟩
theorem am_toldAt {n r : Nat} {S : SS} {P : Nat → Int32} {t : Nat} (hr : isR r) (hn : 269 ≤ n) (hP : RP S r P) (ht : t ≤ 100000) : AM yX4_toldAt cX4_toldAt 3 (some .int) [] 1 0 0 [.ref r, .int (nI t)] n (Hp S) (PI (if P t = 0 then -1 else P t) n S) := by
  intro has
  change WA RX4 cX4_toldAt 3 [] _ _ 0 0 0 [some (.ref r), some (.int (nI t)), none] [] n _
  have hc := cnt_48 hP.1 t
  have hc2 := cnt_le P 48
  refine wa_aload_n dX4_toldAt_0 rfl ?_
  refine wa_iload_n dX4_toldAt_1 rfl ?_
  refine c_VI dX4_toldAt_2 (am_placeOf (by assumption) (by assumption) hP ht) lk_X4_68 rfl (isR.RO (by assumption) _ _ _) rfl (lt_RO (by assumption) (by assumption)) ?_
  refine wa_istore_n dX4_toldAt_5 rfl ?_
  refine wa_aload_n dX4_toldAt_6 rfl ?_
  refine wa_iload_n dX4_toldAt_7 rfl ?_
  refine wa_iload_n dX4_toldAt_8 rfl ?_
  refine c_VI dX4_toldAt_9 (am_isEntryOf (by assumption) (by assumption) hP ht) lk_X4_72 rfl (isR.RO (by assumption) _ _ _) rfl (lt_RO (by assumption) (by assumption)) ?_
  refine wa_if_eq 28 dX4_toldAt_12 rfl (fun c12 => ?_) (fun c12 => ?_)
  · have h0 : P t = 0 := Classical.byContradiction (fun z => by rw [if_neg z] at c12; exact absurd c12 (by decide))
    refine wa_iconst (x := (-1)) dX4_toldAt_28 (by decide) ?_
    exact wa_ireturn dX4_toldAt_29 ⟨Nat.le_refl _, Nat.le_refl _, ⟨_, rfl, rfl⟩, by rw [if_pos h0], rfl, rfl⟩
  have h0 : ¬ P t = 0 := fun z => c12 (by rw [if_pos z])
  have ht48 := cnt_eq48 hP.1 h0
  have hlt := cnt_lt P ht48 h0
  refine wa_aload_n dX4_toldAt_15 rfl ?_
  refine g_RO (by assumption) (by assumption) 13 dX4_toldAt_16 fl_X4_21 (by decide) rfl ?_
  refine wa_iload_n dX4_toldAt_19 rfl ?_
  refine s_iald (j := cnt P t) (isR.prg (by assumption)) dX4_toldAt_20 (lt_R2 (by assumption) (by assumption)) (nI_toInt (by omega)) (by omega) ?_
  rw [hP.2.2 t ht48 h0]
  refine wa_sipush (x := 1000) dX4_toldAt_21 (by decide) ?_
  refine wa_irem dX4_toldAt_24 (by decide) ?_
  refine wa_goto 29 dX4_toldAt_25 rfl ?_
  exact wa_ireturn dX4_toldAt_29 ⟨Nat.le_refl _, Nat.le_refl _, ⟨_, rfl, rfl⟩, by rw [if_neg h0, (hP.1.q ht48 h0).2], rfl, rfl⟩
theorem lp_programmedAt {R : Room} {Q : ab_Q} {k z n r : Nat} {S : SS} {P : Nat → Int32} {t : Nat} (hr : isR r) (hn : 269 ≤ n) (hP : RP S r P) (ht : t < 48) (h1 : 1 ≤ cnt P 48) (hQ : Q (.inl (some (.int (told P t)))) k z n (Hp S)) :
    ∀ (m j : Nat) (x : Int32), x.toInt = (j : Int) - 1 → cnt P (t + 1) + m = j → j ≤ cnt P 48 → WA RX4 cX4_programmedAt 3 [] R Q k z 18 [some (.ref r), some (.int (nI t)), some (.int x)] [] n (Hp S) := by
  have hc2 := cnt_le P 48
  have e1 : nI t + 1 = nI (t + 1) := nI_1 t
  intro m
  induction m with
  | zero =>
    intro j x hx hj hje
    by_cases hj0 : j = 0
    · have hb : back P (t + 1) = 0 := back_0 (t + 1) (by omega)
      obtain ⟨s, hs1, hs2, hs3, hs4⟩ := back_nth (P := P) (i := cnt P 48 - 1) 48 (by omega)
      have hne : ¬ back P 48 = 0 := by rw [hs4]; exact hs2
      have hv : told P t = P s := by unfold told; rw [if_pos hb, if_neg hne, hs4]
      have hat := hP.2.2 s hs1 hs2
      rw [hs3] at hat
      have ex : (S.1 r 14 - 1).toInt = ((cnt P 48 - 1 : Nat) : Int) := by
        rw [hP.2.1, show nI (cnt P 48) - 1 = nI (cnt P 48 - 1) from by have := nI_pred (cnt P 48 - 1); rwa [show cnt P 48 - 1 + 1 = cnt P 48 by omega] at this]
        exact nI_toInt (by omega)
      refine wa_iload_n dX4_programmedAt_18 rfl ?_
      refine wa_if_lt 55 dX4_programmedAt_19 rfl (fun c19 => ?_) (fun c19 => absurd (by rw [Int32.lt_iff_toInt_lt, Int32.toInt_zero]; omega) c19)
      refine wa_aload_n dX4_programmedAt_55 rfl ?_
      refine g_RO (by assumption) (by assumption) 13 dX4_programmedAt_56 fl_X4_21 (by decide) rfl ?_
      refine wa_aload_n dX4_programmedAt_59 rfl ?_
      refine g_RO (by assumption) (by assumption) 14 dX4_programmedAt_60 fl_X4_65 (by decide) rfl ?_
      refine wa_iconst (x := 1) dX4_programmedAt_63 (by decide) ?_
      refine wa_isub dX4_programmedAt_64 ?_
      refine s_iald (j := cnt P 48 - 1) (isR.prg (by assumption)) dX4_programmedAt_65 (lt_R2 (by assumption) (by assumption)) (ex) (by omega) ?_
      rw [hat]
      refine wa_sipush (x := 1000) dX4_programmedAt_66 (by decide) ?_
      refine wa_irem dX4_programmedAt_69 (by decide) ?_
      rw [(hP.1.q hs1 hs2).2, ← hv]
      exact wa_ireturn dX4_programmedAt_70 hQ
    · obtain ⟨s, hs1, hs2, hs3, hs4⟩ := back_nth (P := P) (i := j - 1) (t + 1) (by omega)
      have hne : ¬ back P (t + 1) = 0 := by rw [hs4]; exact hs2
      have hv : told P t = P s := by unfold told; rw [if_neg hne, hs4]
      have hs48 := cnt_eq48 hP.1 hs2
      have hat := hP.2.2 s hs48 hs2
      rw [hs3] at hat
      have hlt := (hP.lt (i := j - 1) (t := t + 1) (by omega) (by omega)).mpr (by omega)
      refine wa_iload_n dX4_programmedAt_18 rfl ?_
      refine wa_if_lt 55 dX4_programmedAt_19 rfl (fun c19 => absurd c19 (by rw [Int32.lt_iff_toInt_lt, Int32.toInt_zero]; omega)) (fun c19 => ?_)
      refine wa_aload_n dX4_programmedAt_22 rfl ?_
      refine g_RO (by assumption) (by assumption) 13 dX4_programmedAt_23 fl_X4_21 (by decide) rfl ?_
      refine wa_iload_n dX4_programmedAt_26 rfl ?_
      refine s_iald (j := j - 1) (isR.prg (by assumption)) dX4_programmedAt_27 (lt_R2 (by assumption) (by assumption)) (by omega) (by omega) ?_
      refine wa_iload_n dX4_programmedAt_28 rfl ?_
      refine wa_iconst (x := 1) dX4_programmedAt_29 (by decide) ?_
      refine wa_iadd dX4_programmedAt_30 ?_
      rw [e1]
      refine wa_sipush (x := 1000) dX4_programmedAt_31 (by decide) ?_
      refine wa_imul dX4_programmedAt_34 ?_
      refine wa_icmp_ge 49 dX4_programmedAt_35 rfl (fun c35 => absurd hlt (Int32.not_lt.mpr c35)) (fun c35 => ?_)
      refine wa_aload_n dX4_programmedAt_38 rfl ?_
      refine g_RO (by assumption) (by assumption) 13 dX4_programmedAt_39 fl_X4_21 (by decide) rfl ?_
      refine wa_iload_n dX4_programmedAt_42 rfl ?_
      refine s_iald (j := j - 1) (isR.prg (by assumption)) dX4_programmedAt_43 (lt_R2 (by assumption) (by assumption)) (by omega) (by omega) ?_
      rw [hat]
      refine wa_sipush (x := 1000) dX4_programmedAt_44 (by decide) ?_
      refine wa_irem dX4_programmedAt_47 (by decide) ?_
      rw [(hP.1.q hs48 hs2).2, ← hv]
      exact wa_ireturn dX4_programmedAt_48 hQ
  | succ m ih =>
    intro j x hx hj hje
    have hnlt : ¬ S.1 (r + 2) (j - 1) < nI (t + 1) * 1000 := fun q => by
      have := (hP.lt (i := j - 1) (t := t + 1) (by omega) (by omega)).mp q
      omega
    refine wa_iload_n dX4_programmedAt_18 rfl ?_
    refine wa_if_lt 55 dX4_programmedAt_19 rfl (fun c19 => absurd c19 (by rw [Int32.lt_iff_toInt_lt, Int32.toInt_zero]; omega)) (fun c19 => ?_)
    refine wa_aload_n dX4_programmedAt_22 rfl ?_
    refine g_RO (by assumption) (by assumption) 13 dX4_programmedAt_23 fl_X4_21 (by decide) rfl ?_
    refine wa_iload_n dX4_programmedAt_26 rfl ?_
    refine s_iald (j := j - 1) (isR.prg (by assumption)) dX4_programmedAt_27 (lt_R2 (by assumption) (by assumption)) (by omega) (by omega) ?_
    refine wa_iload_n dX4_programmedAt_28 rfl ?_
    refine wa_iconst (x := 1) dX4_programmedAt_29 (by decide) ?_
    refine wa_iadd dX4_programmedAt_30 ?_
    rw [e1]
    refine wa_sipush (x := 1000) dX4_programmedAt_31 (by decide) ?_
    refine wa_imul dX4_programmedAt_34 ?_
    refine wa_icmp_ge 49 dX4_programmedAt_35 rfl (fun c35 => ?_) (fun c35 => absurd (Int32.not_le.mp c35) hnlt)
    refine wa_iinc (y := (-1)) dX4_programmedAt_49 rfl (by decide) rfl ?_
    refine wa_goto 18 dX4_programmedAt_52 rfl ?_
    exact ih (j - 1) (x + -1) (by rw [i_add (by rw [show (-1 : Int32).toInt = -1 from by decide]; omega) (by rw [show (-1 : Int32).toInt = -1 from by decide]; omega), show (-1 : Int32).toInt = -1 from by decide]; omega) (by omega) (by omega)
theorem am_programmedAt {n r : Nat} {S : SS} {P : Nat → Int32} {t : Nat} (hr : isR r) (hn : 269 ≤ n) (hP : RP S r P) (ht : t < 48) : AM yX4_programmedAt cX4_programmedAt 3 (some .int) [] 0 0 0 [.ref r, .int (nI t)] n (Hp S) (PI (told P t) n S) := by
  intro has
  change WA RX4 cX4_programmedAt 3 [] _ _ 0 0 0 [some (.ref r), some (.int (nI t)), none] [] n _
  have hc2 := cnt_le P 48
  refine wa_aload_n dX4_programmedAt_0 rfl ?_
  refine g_RO (by assumption) (by assumption) 14 dX4_programmedAt_1 fl_X4_65 (by decide) rfl ?_
  refine wa_if_ne 11 dX4_programmedAt_4 rfl (fun c4 => ?_) (fun c4 => ?_)
  rotate_left
  · have h0 : cnt P 48 = 0 := by
      have c9 : S.1 r 14 = 0 := c4
      rw [hP.2.1, ← nI_0] at c9
      exact (nI_eq (by omega) (by decide)).mp c9
    have hv : told P t = 200 := by
      unfold told
      rw [if_pos (back_0 (t + 1) (by have := cnt_48 hP.1 (t + 1); omega)), if_pos (back_0 48 h0)]
    refine wa_sipush (x := 200) dX4_programmedAt_7 (by decide) ?_
    exact wa_ireturn dX4_programmedAt_10 ⟨Nat.le_refl _, Nat.le_refl _, ⟨_, rfl, rfl⟩, by rw [hv], rfl, rfl⟩
  have h1 : 1 ≤ cnt P 48 := by
    rcases Nat.eq_zero_or_pos (cnt P 48) with q | q
    · exact absurd (by show S.1 r 14 = 0; rw [hP.2.1, q]; rfl) c4
    · exact q
  refine wa_aload_n dX4_programmedAt_11 rfl ?_
  refine g_RO (by assumption) (by assumption) 14 dX4_programmedAt_12 fl_X4_65 (by decide) rfl ?_
  refine wa_iconst (x := 1) dX4_programmedAt_15 (by decide) ?_
  refine wa_isub dX4_programmedAt_16 ?_
  refine wa_istore_n dX4_programmedAt_17 rfl ?_
  have ex : (S.1 r 14 - 1).toInt = ((cnt P 48 : Nat) : Int) - 1 := by
    rw [hP.2.1, i_sub (by rw [nI_toInt (by omega), show (1 : Int32).toInt = 1 from by decide]; omega) (by rw [nI_toInt (by omega), show (1 : Int32).toInt = 1 from by decide]; omega), nI_toInt (by omega)]
    rfl
  exact lp_programmedAt hr hn hP ht h1 ⟨Nat.le_refl _, Nat.le_refl _, ⟨_, rfl, rfl⟩, rfl, rfl, rfl⟩ (cnt P 48 - cnt P (t + 1)) (cnt P 48) _ ex (by have := cnt_48 hP.1 (t + 1); omega) (Nat.le_refl _)
theorem lp_remove {R : Room} {Q : ab_Q} {k z n r c e : Nat} {S : SS} (g : Nat → Int32) (x1 : Int32) (hr : isR r) (hn : 269 ≤ n) (he : e < 48) (h14 : S.1 r 14 = nI e)
    (hQ : ∀ f : Nat → Int32, (∀ j, f j = if c ≤ j ∧ j < e then g (j + 1) else g j) → Q (.inl none) k z n (Hp (su S (r + 2) f))) :
    ∀ (m i : Nat) (f : Nat → Int32), i + m = e → c ≤ i → (∀ j, f j = if c ≤ j ∧ j < i then g (j + 1) else g j) → WA RX4 cX4_removeEntry 3 [] R Q k z 12 [some (.ref r), some (.int x1), some (.int (nI i))] [] n (Hp (su S (r + 2) f)) := by
  have hrr : r ≠ r + 2 := by omega
  intro m
  induction m with
  | zero =>
    intro i f hi hc hf
    have hie : i = e := by omega
    subst hie
    refine wa_iload_n dX4_removeEntry_12 rfl ?_
    refine wa_aload_n dX4_removeEntry_13 rfl ?_
    refine g_RO (by assumption) (by assumption) 14 dX4_removeEntry_14 fl_X4_65 (by decide) rfl ?_
    refine wa_icmp_ge 40 dX4_removeEntry_17 rfl (fun c17 => ?_) (fun c17 => absurd (by show (su S (r + 2) f).1 r 14 ≤ nI i; rw [su_n _ _ hrr, h14]; exact nI_le (Nat.le_refl _) (by omega)) c17)
    exact wa_return dX4_removeEntry_40 (hQ f hf)
  | succ m ih =>
    intro i f hi hc hf
    refine wa_iload_n dX4_removeEntry_12 rfl ?_
    refine wa_aload_n dX4_removeEntry_13 rfl ?_
    refine g_RO (by assumption) (by assumption) 14 dX4_removeEntry_14 fl_X4_65 (by decide) rfl ?_
    refine wa_icmp_ge 40 dX4_removeEntry_17 rfl (fun c17 => absurd c17 (by show ¬ (su S (r + 2) f).1 r 14 ≤ nI i; rw [su_n _ _ hrr, h14]; exact nI_ge (by omega) (by omega))) (fun c17 => ?_)
    refine wa_aload_n dX4_removeEntry_20 rfl ?_
    refine g_RO (by assumption) (by assumption) 13 dX4_removeEntry_21 fl_X4_21 (by decide) rfl ?_
    refine wa_iload_n dX4_removeEntry_24 rfl ?_
    refine wa_aload_n dX4_removeEntry_25 rfl ?_
    refine g_RO (by assumption) (by assumption) 13 dX4_removeEntry_26 fl_X4_21 (by decide) rfl ?_
    refine wa_iload_n dX4_removeEntry_29 rfl ?_
    refine wa_iconst (x := 1) dX4_removeEntry_30 (by decide) ?_
    refine wa_iadd dX4_removeEntry_31 ?_
    rw [nI_1 i]
    refine s_iald (j := i + 1) (isR.prg (by assumption)) dX4_removeEntry_32 (lt_R2 (by assumption) (by assumption)) (nI_toInt (by omega)) (by omega) ?_
    refine s_iast (j := i) (isR.prg (by assumption)) dX4_removeEntry_33 (lt_R2 (by assumption) (by assumption)) (nI_toInt (by omega)) (by omega) ?_
    rw [su_s, ss_su]
    refine wa_iinc (y := 1) dX4_removeEntry_34 rfl (by decide) rfl ?_
    refine wa_goto 12 dX4_removeEntry_37 rfl ?_
    rw [nI_1 i]
    exact ih (i + 1) (upd f i (f (i + 1))) (by omega) (by omega) (fun j => by
      unfold upd
      by_cases hj : j = i
      · subst hj; rw [if_pos rfl, if_pos ⟨hc, by omega⟩, hf, if_neg (by omega)]
      · rw [if_neg hj, hf]
        by_cases h9 : c ≤ j ∧ j < i
        · rw [if_pos h9, if_pos ⟨h9.1, by omega⟩]
        · rw [if_neg h9, if_neg (by omega)])
theorem am_removeEntry {n r : Nat} {S : SS} {P : Nat → Int32} {t : Nat} (hr : isR r) (hn : 269 ≤ n) (hP : RP S r P) (h0 : ¬ P t = 0) : AM yX4_removeEntry cX4_removeEntry 3 none [] 0 0 0 [.ref r, .int (nI (cnt P t))] n (Hp S) (PVe n (fun S' => RP S' r (upd P t 0) ∧ S'.2 = S.2 ∧ (∀ k, k ≠ r → k ≠ r + 2 → S'.1 k = S.1 k) ∧ ∀ j, j ≠ 14 → S'.1 r j = S.1 r j)) := by
  intro has
  change WA RX4 cX4_removeEntry 3 [] _ _ 0 0 0 [some (.ref r), some (.int (nI (cnt P t))), none] [] n _
  have hc2 := cnt_le P 48
  have ht := cnt_eq48 hP.1 h0
  have hlt := cnt_lt P ht h0
  have hrr : r ≠ r + 2 := by omega
  refine wa_aload_n dX4_removeEntry_0 rfl ?_
  refine wa_dup dX4_removeEntry_1 rfl ?_
  refine g_RO (by assumption) (by assumption) 14 dX4_removeEntry_2 fl_X4_65 (by decide) rfl ?_
  refine wa_iconst (x := 1) dX4_removeEntry_5 (by decide) ?_
  refine wa_isub dX4_removeEntry_6 ?_
  refine p_RO (by assumption) (by assumption) 14 dX4_removeEntry_7 fl_X4_65 (by decide) rfl rfl rfl rfl (fun _ _ _ => rfl) (Nat.le_of_ble_eq_true rfl) ?_
  refine wa_iload_n dX4_removeEntry_10 rfl ?_
  refine wa_istore_n dX4_removeEntry_11 rfl ?_
  have e14 : (ss S r 14 (S.1 r 14 - 1)).1 r 14 = nI (cnt P 48 - 1) := by
    rw [ss_1, if_pos ⟨rfl, rfl⟩, hP.2.1]
    have := nI_pred (cnt P 48 - 1)
    rwa [show cnt P 48 - 1 + 1 = cnt P 48 by omega] at this
  have K := lp_remove (R := ab_rm 0 0 0) (c := cnt P t) (e := cnt P 48 - 1) (S := ss S r 14 (S.1 r 14 - 1)) (k := 0) (z := 0) (S.1 (r + 2)) (nI (cnt P t)) hr hn (by omega) e14 (Q := fun r_1 k z n' h' => k ≤ 0 ∧ z ≤ 0 ∧ ab_rok none r_1 ∧ PVe n (fun S' => RP S' r (upd P t 0) ∧ S'.2 = S.2 ∧ (∀ k, k ≠ r → k ≠ r + 2 → S'.1 k = S.1 k) ∧ ∀ j, j ≠ 14 → S'.1 r j = S.1 r j) r_1 n' h') (fun f hf => ⟨Nat.le_refl _, Nat.le_refl _, rfl, rfl, rfl, _, rfl, ?_, rfl, ?_, ?_⟩) (cnt P 48 - 1 - cnt P t) (cnt P t) (S.1 (r + 2)) (by omega) (Nat.le_refl _) (fun j => by rw [if_neg (by omega)])
  · have es : su (ss S r 14 (S.1 r 14 - 1)) (r + 2) (S.1 (r + 2)) = ss S r 14 (S.1 r 14 - 1) := by
      have := su_self (ss S r 14 (S.1 r 14 - 1)) (r + 2)
      rwa [show (ss S r 14 (S.1 r 14 - 1)).1 (r + 2) = S.1 (r + 2) from su_n _ _ (by omega)] at this
    rw [es] at K
    exact K
  · refine hP.del h0 ?_ (fun i hi => ?_) (fun i hi hi2 => ?_)
    · rw [su_n _ _ hrr, ss_1, if_pos ⟨rfl, rfl⟩]
    · rw [su_s, hf, if_neg (by omega)]
    · rw [su_s, hf, if_pos (by omega)]
  · intro k hk1 hk2
    rw [su_n _ _ hk2]
    exact su_n _ _ hk1
  · intro j hj
    rw [su_n _ _ hrr, ss_1, if_neg (by omega)]
theorem lp_put {R : Room} {Q : ab_Q} {k z n r c e : Nat} {S : SS} (g : Nat → Int32) (x1 x2 : Int32) (hr : isR r) (hn : 269 ≤ n) (he : e < 48)
    (hQ : ∀ (f : Nat → Int32) (ls4 : Option Value), (∀ j, f j = if c < j ∧ j ≤ e then g (j - 1) else g j) → WA RX4 cX4_putEntry 5 [] R Q k z 49 [some (.ref r), some (.int x1), some (.int x2), some (.int (nI c)), ls4] [] n (Hp (su S (r + 2) f))) :
    ∀ (m i : Nat) (f : Nat → Int32), c + m = i → i ≤ e → (∀ j, f j = if i < j ∧ j ≤ e then g (j - 1) else g j) → WA RX4 cX4_putEntry 5 [] R Q k z 21 [some (.ref r), some (.int x1), some (.int x2), some (.int (nI c)), some (.int (nI i))] [] n (Hp (su S (r + 2) f)) := by
  have hrr : r ≠ r + 2 := by omega
  intro m
  induction m with
  | zero =>
    intro i f hi hc hf
    have hie : i = c := by omega
    subst hie
    refine wa_iload dX4_putEntry_21 rfl ?_
    refine wa_iload_n dX4_putEntry_23 rfl ?_
    refine wa_icmp_le 49 dX4_putEntry_24 rfl (fun c24 => ?_) (fun c24 => absurd (nI_le (Nat.le_refl i) (by omega)) c24)
    exact hQ f _ hf
  | succ m ih =>
    intro i f hi hc hf
    have e1 : nI i - 1 = nI (i - 1) := by have := nI_pred (i - 1); rwa [show i - 1 + 1 = i by omega] at this
    have e2 : nI i + -1 = nI (i - 1) := by rw [← e1]; exact (Int32.sub_eq_add_neg _ _).symm
    refine wa_iload dX4_putEntry_21 rfl ?_
    refine wa_iload_n dX4_putEntry_23 rfl ?_
    refine wa_icmp_le 49 dX4_putEntry_24 rfl (fun c24 => absurd c24 (nI_ge (by omega) (by omega))) (fun c24 => ?_)
    refine wa_aload_n dX4_putEntry_27 rfl ?_
    refine g_RO (by assumption) (by assumption) 13 dX4_putEntry_28 fl_X4_21 (by decide) rfl ?_
    refine wa_iload dX4_putEntry_31 rfl ?_
    refine wa_aload_n dX4_putEntry_33 rfl ?_
    refine g_RO (by assumption) (by assumption) 13 dX4_putEntry_34 fl_X4_21 (by decide) rfl ?_
    refine wa_iload dX4_putEntry_37 rfl ?_
    refine wa_iconst (x := 1) dX4_putEntry_39 (by decide) ?_
    refine wa_isub dX4_putEntry_40 ?_
    rw [e1]
    refine s_iald (j := i - 1) (isR.prg (by assumption)) dX4_putEntry_41 (lt_R2 (by assumption) (by assumption)) (nI_toInt (by omega)) (by omega) ?_
    refine s_iast (j := i) (isR.prg (by assumption)) dX4_putEntry_42 (lt_R2 (by assumption) (by assumption)) (nI_toInt (by omega)) (by omega) ?_
    rw [su_s, ss_su]
    refine wa_iinc (y := (-1)) dX4_putEntry_43 rfl (by decide) rfl ?_
    refine wa_goto 21 dX4_putEntry_46 rfl ?_
    rw [e2]
    exact ih (i - 1) (upd f i (f (i - 1))) (by omega) (by omega) (fun j => by
      unfold upd
      by_cases hj : j = i
      · subst hj; rw [if_pos rfl, if_pos (by omega), hf, if_neg (by omega)]
      · rw [if_neg hj, hf]
        by_cases h9 : i < j ∧ j ≤ e
        · rw [if_pos h9, if_pos (by omega)]
        · rw [if_neg h9, if_neg (by omega)])
theorem am_putEntry {n r : Nat} {S : SS} {P : Nat → Int32} {t : Nat} {v : Int32} (hr : isR r) (hn : 269 ≤ n) (hP : RP S r P) (ht : t < 48) (hv : 50 ≤ v.toInt ∧ v.toInt ≤ 300) : AM yX4_putEntry cX4_putEntry 5 none [] 1 0 0 [.ref r, .int (nI t), .int v] n (Hp S) (PVe n (fun S' => RP S' r (upd P t v) ∧ S'.2 = S.2 ∧ (∀ k, k ≠ r → k ≠ r + 2 → S'.1 k = S.1 k) ∧ ∀ j, j ≠ 14 → S'.1 r j = S.1 r j)) := by
  intro has
  change WA RX4 cX4_putEntry 5 [] _ _ 0 0 0 [some (.ref r), some (.int (nI t)), some (.int v), none, none] [] n _
  have hc2 := cnt_le P 48
  have hct := cnt_48 hP.1 t
  have hrr : r ≠ r + 2 := by omega
  have hv0 : ¬ v = 0 := fun e => by rw [e, Int32.toInt_zero] at hv; omega
  have ec : cnt P t < 48 := by have := cnt_le P t; omega
  refine wa_aload_n dX4_putEntry_0 rfl ?_
  refine wa_iload_n dX4_putEntry_1 rfl ?_
  refine c_VI dX4_putEntry_2 (am_placeOf (by assumption) (by assumption) hP (by omega)) lk_X4_68 rfl (isR.RO (by assumption) _ _ _) rfl (lt_RO (by assumption) (by assumption)) ?_
  refine wa_istore_n dX4_putEntry_5 rfl ?_
  refine wa_aload_n dX4_putEntry_6 rfl ?_
  refine wa_iload_n dX4_putEntry_7 rfl ?_
  refine wa_iload_n dX4_putEntry_8 rfl ?_
  refine c_VI dX4_putEntry_9 (am_isEntryOf (by assumption) (by assumption) hP (by omega)) lk_X4_72 rfl (isR.RO (by assumption) _ _ _) rfl (lt_RO (by assumption) (by assumption)) ?_
  refine wa_if_ne 59 dX4_putEntry_12 rfl (fun c12 => ?_) (fun c12 => ?_)
  · have h0 : ¬ P t = 0 := fun z => c12 (by rw [if_pos z])
    refine wa_aload_n dX4_putEntry_59 rfl ?_
    refine g_RO (by assumption) (by assumption) 13 dX4_putEntry_60 fl_X4_21 (by decide) rfl ?_
    refine wa_iload_n dX4_putEntry_63 rfl ?_
    refine wa_iload_n dX4_putEntry_64 rfl ?_
    refine wa_sipush (x := 1000) dX4_putEntry_65 (by decide) ?_
    refine wa_imul dX4_putEntry_68 ?_
    rw [nI_mul1000 (by omega)]
    refine wa_iload_n dX4_putEntry_69 rfl ?_
    refine wa_iadd dX4_putEntry_70 ?_
    refine s_iast (j := cnt P t) (isR.prg (by assumption)) dX4_putEntry_71 (lt_R2 (by assumption) (by assumption)) (nI_toInt (by omega)) (by omega) ?_
    refine wa_return dX4_putEntry_72 ⟨Nat.le_refl _, Nat.le_refl _, rfl, rfl, rfl, _, rfl, ?_, rfl, ?_, ?_⟩
    · refine hP.put ht hv ?_ (fun i hi => ?_) ?_ (fun i hi hi2 => ?_)
      · rw [if_neg h0, ss_1, if_neg (by omega)]
      · rw [ss_1, if_neg (by omega)]
      · rw [ss_1, if_pos ⟨rfl, rfl⟩]
      · rw [if_neg h0, ss_1, if_neg (by omega)]
    · intro k hk1 hk2
      exact su_n _ _ hk2
    · intro j hj
      rw [ss_1, if_neg (by omega)]
  have h0 : P t = 0 := Classical.byContradiction (fun z => by rw [if_neg z] at c12; exact absurd c12 (by decide))
  have he : cnt P 48 < 48 := cnt_0lt h0 48 ht
  refine wa_aload_n dX4_putEntry_15 rfl ?_
  refine g_RO (by assumption) (by assumption) 14 dX4_putEntry_16 fl_X4_65 (by decide) rfl ?_
  refine wa_istore dX4_putEntry_19 rfl ?_
  rw [show (S.1 r 14) = nI (cnt P 48) from hP.2.1]
  have K := lp_put (R := ab_rm 1 0 0) (c := cnt P t) (e := cnt P 48) (S := S) (k := 0) (z := 0) (S.1 (r + 2)) (nI t) v hr hn he (Q := fun r_1 k z n' h' => k ≤ 0 ∧ z ≤ 0 ∧ ab_rok none r_1 ∧ PVe n (fun S' => RP S' r (upd P t v) ∧ S'.2 = S.2 ∧ (∀ k, k ≠ r → k ≠ r + 2 → S'.1 k = S.1 k) ∧ ∀ j, j ≠ 14 → S'.1 r j = S.1 r j) r_1 n' h') (fun f ls4 hf => ?_) (cnt P 48 - cnt P t) (cnt P 48) (S.1 (r + 2)) (by omega) (Nat.le_refl _) (fun j => by rw [if_neg (by omega)])
  · rw [su_self] at K
    exact K
  refine wa_aload_n dX4_putEntry_49 rfl ?_
  refine wa_dup dX4_putEntry_50 rfl ?_
  refine g_RO (by assumption) (by assumption) 14 dX4_putEntry_51 fl_X4_65 (by decide) rfl ?_
  refine wa_iconst (x := 1) dX4_putEntry_54 (by decide) ?_
  refine wa_iadd dX4_putEntry_55 ?_
  refine p_RO (by assumption) (by assumption) 14 dX4_putEntry_56 fl_X4_65 (by decide) rfl rfl rfl rfl (fun _ _ _ => rfl) (Nat.le_of_ble_eq_true rfl) ?_
  refine wa_aload_n dX4_putEntry_59 rfl ?_
  refine g_RO (by assumption) (by assumption) 13 dX4_putEntry_60 fl_X4_21 (by decide) rfl ?_
  refine wa_iload_n dX4_putEntry_63 rfl ?_
  refine wa_iload_n dX4_putEntry_64 rfl ?_
  refine wa_sipush (x := 1000) dX4_putEntry_65 (by decide) ?_
  refine wa_imul dX4_putEntry_68 ?_
  rw [nI_mul1000 (by omega)]
  refine wa_iload_n dX4_putEntry_69 rfl ?_
  refine wa_iadd dX4_putEntry_70 ?_
  refine s_iast (j := cnt P t) (isR.prg (by assumption)) dX4_putEntry_71 (lt_R2 (by assumption) (by assumption)) (nI_toInt (by omega)) (by omega) ?_
  refine wa_return dX4_putEntry_72 ⟨Nat.le_refl _, Nat.le_refl _, rfl, rfl, rfl, _, rfl, ?_, rfl, ?_, ?_⟩
  · refine hP.put ht hv ?_ (fun i hi => ?_) ?_ (fun i hi hi2 => ?_)
    · rw [if_pos h0, ss_1, if_neg (by omega), ss_1, if_pos ⟨rfl, rfl⟩, su_n _ _ hrr]
    · rw [ss_1, if_neg (by omega), ss_1, if_neg (by omega), su_s, hf, if_neg (by omega)]
    · rw [ss_1, if_pos ⟨rfl, rfl⟩]
    · rw [if_pos h0, ss_1, if_neg (by omega), ss_1, if_neg (by omega), su_s, hf]
      rw [if_pos ⟨hi, hi2⟩]
  · intro k hk1 hk2
    rw [show (ss (ss (su S (r + 2) f) r 14 _) (r + 2) _ _).1 k = (ss (su S (r + 2) f) r 14 _).1 k from su_n _ _ hk2, show (ss (su S (r + 2) f) r 14 _).1 k = (su S (r + 2) f).1 k from su_n _ _ hk1]
    exact su_n _ _ hk2
  · intro j hj
    rw [ss_1, if_neg (by omega), ss_1, if_neg (by omega), su_n _ _ hrr]

