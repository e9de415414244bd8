/-! ValveRoomModel: the rest of its answers. Written by program (wip/whole/gen/m596.py) but for the heads. -/
theorem th_net (S : SS) : (th S 0).1 268 = S.1 268 := th_n S 0 (by decide)
theorem mm_planned_1 {n : Nat} {S : SS} {T : Int} (hn : 279 ≤ n) (hm : mr S = 268) (hV : VG T (S.1 268)) (k what : Int32) (h1 : ¬ (inr k 0 (S.1 268 3 - 1))) : AM yX7_planned cX7_planned 3 (some .int) [] 2 0 0 [.ref 267, .int k, .int what] n (Hp S) (PI 0 n (th S 1)) := by
  intro has
  change WA RX7 cX7_planned 3 [] _ _ 0 0 0 [some (.ref 267), some (.int k), some (.int what)] [] n _
  have hVr : VG T (row S) := by rw [row_net hm]; exact hV
  refine wa_aload_n dX7_planned_0 rfl ?_
  refine wa_iload_n dX7_planned_1 rfl ?_
  refine wa_i2l dX7_planned_2 ?_
  refine wa_lconst (x := 0) dX7_planned_3 (by decide) ?_
  refine wa_aload_n dX7_planned_4 rfl ?_
  refine g_MO (by assumption) 1 dX7_planned_5 fl_X7_17 (by decide) rfl ?_
  refine wa_iconst (x := 3) dX7_planned_8 (by decide) ?_
  refine s_iald (j := 3) isA_net dX7_planned_9 (ltS (by assumption)) rfl (by decide) ?_
  refine wa_iconst (x := 1) dX7_planned_10 (by decide) ?_
  refine wa_isub dX7_planned_11 ?_
  refine wa_i2l dX7_planned_12 ?_
  refine c_SI dX7_planned_13 (mm_inI (a := k) (b := 0) (c := S.1 268 3 - 1) (by first | rfl | decide) (by first | rfl | decide)) lk_X7_60 rfl ?_
  refine wa_iload_n dX7_planned_16 rfl ?_
  refine wa_i2l dX7_planned_17 ?_
  refine wa_lconst (x := 0) dX7_planned_18 (by decide) ?_
  refine wa_ldc2 dX7_planned_19 wv_X7_366 ?_
  refine c_SI dX7_planned_22 (mm_inI (a := what) (b := 0) (c := 2) (by first | rfl | decide) (by first | rfl | decide)) lk_X7_60 rfl ?_
  refine c_VI dX7_planned_25 (mm_passesP (by assumption) (inr k 0 (S.1 268 3 - 1)) (inr what 0 2)) lk_X7_352 rfl (isO_MO _ _ _) rfl (ltS (by assumption)) ?_
  rw [b2i_0 (fun z => h1 z.1), if_neg h1]
  refine wa_if_eq 40 dX7_planned_28 rfl (fun c28 => ?_) (fun c28 => absurd rfl c28)
  refine wa_iconst (x := 0) dX7_planned_40 (by decide) ?_
  exact wa_ireturn dX7_planned_41 ⟨Nat.le_refl _, Nat.le_refl _, ⟨_, rfl, rfl⟩, rfl, rfl, rfl⟩
theorem mm_planned_2 {n : Nat} {S : SS} {T : Int} (hn : 279 ≤ n) (hm : mr S = 268) (hV : VG T (S.1 268)) (k what : Int32) (h1 : inr k 0 (S.1 268 3 - 1)) (h2 : ¬ (inr what 0 2)) : AM yX7_planned cX7_planned 3 (some .int) [] 2 0 0 [.ref 267, .int k, .int what] n (Hp S) (PI 0 n (th S 2)) := by
  intro has
  change WA RX7 cX7_planned 3 [] _ _ 0 0 0 [some (.ref 267), some (.int k), some (.int what)] [] n _
  have hVr : VG T (row S) := by rw [row_net hm]; exact hV
  refine wa_aload_n dX7_planned_0 rfl ?_
  refine wa_iload_n dX7_planned_1 rfl ?_
  refine wa_i2l dX7_planned_2 ?_
  refine wa_lconst (x := 0) dX7_planned_3 (by decide) ?_
  refine wa_aload_n dX7_planned_4 rfl ?_
  refine g_MO (by assumption) 1 dX7_planned_5 fl_X7_17 (by decide) rfl ?_
  refine wa_iconst (x := 3) dX7_planned_8 (by decide) ?_
  refine s_iald (j := 3) isA_net dX7_planned_9 (ltS (by assumption)) rfl (by decide) ?_
  refine wa_iconst (x := 1) dX7_planned_10 (by decide) ?_
  refine wa_isub dX7_planned_11 ?_
  refine wa_i2l dX7_planned_12 ?_
  refine c_SI dX7_planned_13 (mm_inI (a := k) (b := 0) (c := S.1 268 3 - 1) (by first | rfl | decide) (by first | rfl | decide)) lk_X7_60 rfl ?_
  refine wa_iload_n dX7_planned_16 rfl ?_
  refine wa_i2l dX7_planned_17 ?_
  refine wa_lconst (x := 0) dX7_planned_18 (by decide) ?_
  refine wa_ldc2 dX7_planned_19 wv_X7_366 ?_
  refine c_SI dX7_planned_22 (mm_inI (a := what) (b := 0) (c := 2) (by first | rfl | decide) (by first | rfl | decide)) lk_X7_60 rfl ?_
  refine c_VI dX7_planned_25 (mm_passesP (by assumption) (inr k 0 (S.1 268 3 - 1)) (inr what 0 2)) lk_X7_352 rfl (isO_MO _ _ _) rfl (ltS (by assumption)) ?_
  rw [b2i_0 (fun z => h2 z.2), if_pos h1, if_neg h2]
  refine wa_if_eq 40 dX7_planned_28 rfl (fun c28 => ?_) (fun c28 => absurd rfl c28)
  refine wa_iconst (x := 0) dX7_planned_40 (by decide) ?_
  exact wa_ireturn dX7_planned_41 ⟨Nat.le_refl _, Nat.le_refl _, ⟨_, rfl, rfl⟩, rfl, rfl, rfl⟩
theorem mm_planned_0 {n : Nat} {S : SS} {T : Int} (hn : 279 ≤ n) (hm : mr S = 268) (hV : VG T (S.1 268)) {k w : Nat} (hk : k < 20) (hw : w < 3) (h1 : inr (nI k) 0 (S.1 268 3 - 1)) (h2 : inr (nI w) 0 2) : AM yX7_planned cX7_planned 3 (some .int) [] 2 0 0 [.ref 267, .int (nI k), .int (nI w)] n (Hp S) (PI (S.1 268 (11 + 3 * k + w)) n (th S 0)) := by
  intro has
  change WA RX7 cX7_planned 3 [] _ _ 0 0 0 [some (.ref 267), some (.int (nI k)), some (.int (nI w))] [] n _
  have hVr : VG T (row S) := by rw [row_net hm]; exact hV
  have hV1 : VG T (row (th S 0)) := VG_th hVr 0
  refine wa_aload_n dX7_planned_0 rfl ?_
  refine wa_iload_n dX7_planned_1 rfl ?_
  refine wa_i2l dX7_planned_2 ?_
  refine wa_lconst (x := 0) dX7_planned_3 (by decide) ?_
  refine wa_aload_n dX7_planned_4 rfl ?_
  refine g_MO (by assumption) 1 dX7_planned_5 fl_X7_17 (by decide) rfl ?_
  refine wa_iconst (x := 3) dX7_planned_8 (by decide) ?_
  refine s_iald (j := 3) isA_net dX7_planned_9 (ltS (by assumption)) rfl (by decide) ?_
  refine wa_iconst (x := 1) dX7_planned_10 (by decide) ?_
  refine wa_isub dX7_planned_11 ?_
  refine wa_i2l dX7_planned_12 ?_
  refine c_SI dX7_planned_13 (mm_inI (a := (nI k)) (b := 0) (c := S.1 268 3 - 1) (by first | rfl | decide) (by first | rfl | decide)) lk_X7_60 rfl ?_
  refine wa_iload_n dX7_planned_16 rfl ?_
  refine wa_i2l dX7_planned_17 ?_
  refine wa_lconst (x := 0) dX7_planned_18 (by decide) ?_
  refine wa_ldc2 dX7_planned_19 wv_X7_366 ?_
  refine c_SI dX7_planned_22 (mm_inI (a := (nI w)) (b := 0) (c := 2) (by first | rfl | decide) (by first | rfl | decide)) lk_X7_60 rfl ?_
  refine c_VI dX7_planned_25 (mm_passesP (by assumption) (inr (nI k) 0 (S.1 268 3 - 1)) (inr (nI w) 0 2)) lk_X7_352 rfl (isO_MO _ _ _) rfl (ltS (by assumption)) ?_
  rw [b2i_1 ⟨h1, h2⟩, if_pos h1, if_pos h2]
  refine wa_if_eq 40 dX7_planned_28 rfl (fun c28 => absurd c28 (by decide)) (fun c28 => ?_)
  refine wa_aload_n dX7_planned_31 rfl ?_
  refine wa_iload_n dX7_planned_32 rfl ?_
  refine wa_iload_n dX7_planned_33 rfl ?_
  refine c_VI dX7_planned_34 (mm_ofPlan (w := w) (by assumption) hk hw) lk_X7_132 rfl (isO_MO _ _ _) rfl (ltS (by assumption)) ?_
  refine wa_goto 41 dX7_planned_37 rfl ?_
  exact wa_ireturn dX7_planned_41 ⟨Nat.le_refl _, Nat.le_refl _, ⟨_, rfl, rfl⟩, (ri (show row (th S 0) (11 + 3 * k + w) = S.1 268 (11 + 3 * k + w) by rw [row_th, row_net hm])), rfl, rfl⟩
theorem mm_why_1 {n : Nat} {S : SS} {T : Int} (hn : 279 ≤ n) (hm : mr S = 268) (hV : VG T (S.1 268)) (r : Int32) (h1 : ¬ (rk S r)) : AM yX7_why cX7_why 2 (some .int) [] 6 0 0 [.ref 267, .int r] n (Hp S) (PI 0 n (th S 1)) := by
  intro has
  change WA RX7 cX7_why 2 [] _ _ 0 0 0 [some (.ref 267), some (.int r)] [] n _
  have hVr : VG T (row S) := by rw [row_net hm]; exact hV
  refine wa_aload_n dX7_why_0 rfl ?_
  refine wa_aload_n dX7_why_1 rfl ?_
  refine wa_iload_n dX7_why_2 rfl ?_
  refine c_VI dX7_why_3 (mm_isRoom (by assumption) hVr r) lk_X7_347 rfl (isO_MO _ _ _) rfl (ltS (by assumption)) ?_
  refine c_VI dX7_why_6 (mm_passes1 (by assumption) (rk S r)) lk_X7_155 rfl (isO_MO _ _ _) rfl (ltS (by assumption)) ?_
  rw [b2i_0 (fun z => h1 z), if_neg h1]
  refine wa_if_ne 14 dX7_why_9 rfl (fun c9 => absurd rfl c9) (fun c9 => ?_)
  refine wa_iconst (x := 0) dX7_why_12 (by decide) ?_
  exact wa_ireturn dX7_why_13 ⟨Nat.le_refl _, Nat.le_refl _, ⟨_, rfl, rfl⟩, rfl, rfl, rfl⟩
theorem mm_why_0 {n : Nat} {S : SS} {T : Int} (hn : 279 ≤ n) (hm : mr S = 268) (hV : VG T (S.1 268)) {i : Nat} (hi : i < 6) (h1 : rk S (nI i)) : AM yX7_why cX7_why 2 (some .int) [] 6 0 0 [.ref 267, .int (nI i)] n (Hp S) (PI (if ¬ of (S.1 268) i 1 = wnt (S.1 268) i then (if 0 < of (S.1 268) i 2 then 0 else 1) else if 0 < of (S.1 268) i 7 then 2 else if i_abs (mis (S.1 268) i) ≤ S.1 268 7 then 3 else if of (S.1 268) i 0 < tgt (S.1 268) i then 5 else 4) n (th S 0)) := by
  intro has
  change WA RX7 cX7_why 2 [] _ _ 0 0 0 [some (.ref 267), some (.int (nI i))] [] n _
  have hVr : VG T (row S) := by rw [row_net hm]; exact hV
  have hV1 : VG T (row (th S 0)) := VG_th hVr 0
  refine wa_aload_n dX7_why_0 rfl ?_
  refine wa_aload_n dX7_why_1 rfl ?_
  refine wa_iload_n dX7_why_2 rfl ?_
  refine c_VI dX7_why_3 (mm_isRoom (by assumption) hVr (nI i)) lk_X7_347 rfl (isO_MO _ _ _) rfl (ltS (by assumption)) ?_
  refine c_VI dX7_why_6 (mm_passes1 (by assumption) (rk S (nI i))) lk_X7_155 rfl (isO_MO _ _ _) rfl (ltS (by assumption)) ?_
  rw [b2i_1 h1, if_pos h1]
  refine wa_if_ne 14 dX7_why_9 rfl (fun c9 => ?_) (fun c9 => absurd c9 (by decide))
  refine wa_aload_n dX7_why_14 rfl ?_
  refine wa_iload_n dX7_why_15 rfl ?_
  refine wa_iconst (x := 1) dX7_why_16 (by decide) ?_
  refine c_VI dX7_why_17 (mm_of2 (w := 1) (by assumption) (by assumption) (by decide)) lk_X7_68 rfl (isO_MO _ _ _) rfl (ltS (by assumption)) ?_
  refine wa_aload_n dX7_why_20 rfl ?_
  refine wa_iload_n dX7_why_21 rfl ?_
  refine c_VI dX7_why_22 (mt_wantedIn (by assumption) (by assumption) (by assumption)) lk_X7_129 rfl (isO_MO _ _ _) rfl (ltS (by assumption)) ?_
  refine wa_icmp_eq 43 dX7_why_25 rfl (fun c25 => ?_) (fun c25 => ?_)
  · refine wa_aload_n dX7_why_43 rfl ?_
    refine wa_iload_n dX7_why_44 rfl ?_
    refine wa_bipush (x := 7) dX7_why_45 (by decide) ?_
    refine c_VI dX7_why_47 (mm_of2 (w := 7) (by assumption) (by assumption) (by decide)) lk_X7_68 rfl (isO_MO _ _ _) rfl (ltS (by assumption)) ?_
    refine wa_if_le 55 dX7_why_50 rfl (fun c50 => ?_) (fun c50 => ?_)
    · refine wa_aload_n dX7_why_55 rfl ?_
      refine wa_iload_n dX7_why_56 rfl ?_
      refine c_VI dX7_why_57 (mt_isInBand (by assumption) (by assumption) (by assumption)) lk_X7_87 rfl (isO_MO _ _ _) rfl (ltS (by assumption)) ?_
      refine wa_if_eq 65 dX7_why_60 rfl (fun c60 => ?_) (fun c60 => ?_)
      · refine wa_aload_n dX7_why_65 rfl ?_
        refine wa_iload_n dX7_why_66 rfl ?_
        refine c_VI dX7_why_67 (mt_targetOf (by assumption) (by assumption) (by assumption)) lk_X7_78 rfl (isO_MO _ _ _) rfl (ltS (by assumption)) ?_
        refine wa_aload_n dX7_why_70 rfl ?_
        refine wa_iload_n dX7_why_71 rfl ?_
        refine wa_iconst (x := 0) dX7_why_72 (by decide) ?_
        refine c_VI dX7_why_73 (mm_of2 (w := 0) (by assumption) (by assumption) (by decide)) lk_X7_68 rfl (isO_MO _ _ _) rfl (ltS (by assumption)) ?_
        refine wa_icmp_le 83 dX7_why_76 rfl (fun c76 => ?_) (fun c76 => ?_)
        · refine wa_iconst (x := 4) dX7_why_83 (by decide) ?_
          simp only [row_th, row_net hm] at *
          first
          | exact wa_ireturn dX7_why_84 ⟨Nat.le_refl _, Nat.le_refl _, ⟨_, rfl, rfl⟩, (ri (by rw [if_pos c25, if_pos (Int32.not_le.mp c34)])), rfl, rfl⟩
          | exact wa_ireturn dX7_why_84 ⟨Nat.le_refl _, Nat.le_refl _, ⟨_, rfl, rfl⟩, (ri (by rw [if_pos c25, if_neg (Int32.not_lt.mpr c34)])), rfl, rfl⟩
          | exact wa_ireturn dX7_why_84 ⟨Nat.le_refl _, Nat.le_refl _, ⟨_, rfl, rfl⟩, (ri (by rw [if_neg (not_not_intro c25), if_pos (Int32.not_le.mp c50)])), rfl, rfl⟩
          | exact wa_ireturn dX7_why_84 ⟨Nat.le_refl _, Nat.le_refl _, ⟨_, rfl, rfl⟩, (ri (by rw [if_neg (not_not_intro c25), if_neg (Int32.not_lt.mpr c50), if_pos (b2i_t c60)])), rfl, rfl⟩
          | exact wa_ireturn dX7_why_84 ⟨Nat.le_refl _, Nat.le_refl _, ⟨_, rfl, rfl⟩, (ri (by rw [if_neg (not_not_intro c25), if_neg (Int32.not_lt.mpr c50), if_neg (b2i_f c60), if_pos (Int32.not_le.mp c76)])), rfl, rfl⟩
          | exact wa_ireturn dX7_why_84 ⟨Nat.le_refl _, Nat.le_refl _, ⟨_, rfl, rfl⟩, (ri (by rw [if_neg (not_not_intro c25), if_neg (Int32.not_lt.mpr c50), if_neg (b2i_f c60), if_neg (Int32.not_lt.mpr c76)])), rfl, rfl⟩
        · refine wa_iconst (x := 5) dX7_why_79 (by decide) ?_
          refine wa_goto 84 dX7_why_80 rfl ?_
          simp only [row_th, row_net hm] at *
          first
          | exact wa_ireturn dX7_why_84 ⟨Nat.le_refl _, Nat.le_refl _, ⟨_, rfl, rfl⟩, (ri (by rw [if_pos c25, if_pos (Int32.not_le.mp c34)])), rfl, rfl⟩
          | exact wa_ireturn dX7_why_84 ⟨Nat.le_refl _, Nat.le_refl _, ⟨_, rfl, rfl⟩, (ri (by rw [if_pos c25, if_neg (Int32.not_lt.mpr c34)])), rfl, rfl⟩
          | exact wa_ireturn dX7_why_84 ⟨Nat.le_refl _, Nat.le_refl _, ⟨_, rfl, rfl⟩, (ri (by rw [if_neg (not_not_intro c25), if_pos (Int32.not_le.mp c50)])), rfl, rfl⟩
          | exact wa_ireturn dX7_why_84 ⟨Nat.le_refl _, Nat.le_refl _, ⟨_, rfl, rfl⟩, (ri (by rw [if_neg (not_not_intro c25), if_neg (Int32.not_lt.mpr c50), if_pos (b2i_t c60)])), rfl, rfl⟩
          | exact wa_ireturn dX7_why_84 ⟨Nat.le_refl _, Nat.le_refl _, ⟨_, rfl, rfl⟩, (ri (by rw [if_neg (not_not_intro c25), if_neg (Int32.not_lt.mpr c50), if_neg (b2i_f c60), if_pos (Int32.not_le.mp c76)])), rfl, rfl⟩
          | exact wa_ireturn dX7_why_84 ⟨Nat.le_refl _, Nat.le_refl _, ⟨_, rfl, rfl⟩, (ri (by rw [if_neg (not_not_intro c25), if_neg (Int32.not_lt.mpr c50), if_neg (b2i_f c60), if_neg (Int32.not_lt.mpr c76)])), rfl, rfl⟩
      · refine wa_iconst (x := 3) dX7_why_63 (by decide) ?_
        simp only [row_th, row_net hm] at *
        first
        | exact wa_ireturn dX7_why_64 ⟨Nat.le_refl _, Nat.le_refl _, ⟨_, rfl, rfl⟩, (ri (by rw [if_pos c25, if_pos (Int32.not_le.mp c34)])), rfl, rfl⟩
        | exact wa_ireturn dX7_why_64 ⟨Nat.le_refl _, Nat.le_refl _, ⟨_, rfl, rfl⟩, (ri (by rw [if_pos c25, if_neg (Int32.not_lt.mpr c34)])), rfl, rfl⟩
        | exact wa_ireturn dX7_why_64 ⟨Nat.le_refl _, Nat.le_refl _, ⟨_, rfl, rfl⟩, (ri (by rw [if_neg (not_not_intro c25), if_pos (Int32.not_le.mp c50)])), rfl, rfl⟩
        | exact wa_ireturn dX7_why_64 ⟨Nat.le_refl _, Nat.le_refl _, ⟨_, rfl, rfl⟩, (ri (by rw [if_neg (not_not_intro c25), if_neg (Int32.not_lt.mpr c50), if_pos (b2i_t c60)])), rfl, rfl⟩
        | exact wa_ireturn dX7_why_64 ⟨Nat.le_refl _, Nat.le_refl _, ⟨_, rfl, rfl⟩, (ri (by rw [if_neg (not_not_intro c25), if_neg (Int32.not_lt.mpr c50), if_neg (b2i_f c60), if_pos (Int32.not_le.mp c76)])), rfl, rfl⟩
        | exact wa_ireturn dX7_why_64 ⟨Nat.le_refl _, Nat.le_refl _, ⟨_, rfl, rfl⟩, (ri (by rw [if_neg (not_not_intro c25), if_neg (Int32.not_lt.mpr c50), if_neg (b2i_f c60), if_neg (Int32.not_lt.mpr c76)])), rfl, rfl⟩
    · refine wa_iconst (x := 2) dX7_why_53 (by decide) ?_
      simp only [row_th, row_net hm] at *
      first
      | exact wa_ireturn dX7_why_54 ⟨Nat.le_refl _, Nat.le_refl _, ⟨_, rfl, rfl⟩, (ri (by rw [if_pos c25, if_pos (Int32.not_le.mp c34)])), rfl, rfl⟩
      | exact wa_ireturn dX7_why_54 ⟨Nat.le_refl _, Nat.le_refl _, ⟨_, rfl, rfl⟩, (ri (by rw [if_pos c25, if_neg (Int32.not_lt.mpr c34)])), rfl, rfl⟩
      | exact wa_ireturn dX7_why_54 ⟨Nat.le_refl _, Nat.le_refl _, ⟨_, rfl, rfl⟩, (ri (by rw [if_neg (not_not_intro c25), if_pos (Int32.not_le.mp c50)])), rfl, rfl⟩
      | exact wa_ireturn dX7_why_54 ⟨Nat.le_refl _, Nat.le_refl _, ⟨_, rfl, rfl⟩, (ri (by rw [if_neg (not_not_intro c25), if_neg (Int32.not_lt.mpr c50), if_pos (b2i_t c60)])), rfl, rfl⟩
      | exact wa_ireturn dX7_why_54 ⟨Nat.le_refl _, Nat.le_refl _, ⟨_, rfl, rfl⟩, (ri (by rw [if_neg (not_not_intro c25), if_neg (Int32.not_lt.mpr c50), if_neg (b2i_f c60), if_pos (Int32.not_le.mp c76)])), rfl, rfl⟩
      | exact wa_ireturn dX7_why_54 ⟨Nat.le_refl _, Nat.le_refl _, ⟨_, rfl, rfl⟩, (ri (by rw [if_neg (not_not_intro c25), if_neg (Int32.not_lt.mpr c50), if_neg (b2i_f c60), if_neg (Int32.not_lt.mpr c76)])), rfl, rfl⟩
  · refine wa_aload_n dX7_why_28 rfl ?_
    refine wa_iload_n dX7_why_29 rfl ?_
    refine wa_iconst (x := 2) dX7_why_30 (by decide) ?_
    refine c_VI dX7_why_31 (mm_of2 (w := 2) (by assumption) (by assumption) (by decide)) lk_X7_68 rfl (isO_MO _ _ _) rfl (ltS (by assumption)) ?_
    refine wa_if_le 41 dX7_why_34 rfl (fun c34 => ?_) (fun c34 => ?_)
    · refine wa_iconst (x := 1) dX7_why_41 (by decide) ?_
      simp only [row_th, row_net hm] at *
      first
      | exact wa_ireturn dX7_why_42 ⟨Nat.le_refl _, Nat.le_refl _, ⟨_, rfl, rfl⟩, (ri (by rw [if_pos c25, if_pos (Int32.not_le.mp c34)])), rfl, rfl⟩
      | exact wa_ireturn dX7_why_42 ⟨Nat.le_refl _, Nat.le_refl _, ⟨_, rfl, rfl⟩, (ri (by rw [if_pos c25, if_neg (Int32.not_lt.mpr c34)])), rfl, rfl⟩
      | exact wa_ireturn dX7_why_42 ⟨Nat.le_refl _, Nat.le_refl _, ⟨_, rfl, rfl⟩, (ri (by rw [if_neg (not_not_intro c25), if_pos (Int32.not_le.mp c50)])), rfl, rfl⟩
      | exact wa_ireturn dX7_why_42 ⟨Nat.le_refl _, Nat.le_refl _, ⟨_, rfl, rfl⟩, (ri (by rw [if_neg (not_not_intro c25), if_neg (Int32.not_lt.mpr c50), if_pos (b2i_t c60)])), rfl, rfl⟩
      | exact wa_ireturn dX7_why_42 ⟨Nat.le_refl _, Nat.le_refl _, ⟨_, rfl, rfl⟩, (ri (by rw [if_neg (not_not_intro c25), if_neg (Int32.not_lt.mpr c50), if_neg (b2i_f c60), if_pos (Int32.not_le.mp c76)])), rfl, rfl⟩
      | exact wa_ireturn dX7_why_42 ⟨Nat.le_refl _, Nat.le_refl _, ⟨_, rfl, rfl⟩, (ri (by rw [if_neg (not_not_intro c25), if_neg (Int32.not_lt.mpr c50), if_neg (b2i_f c60), if_neg (Int32.not_lt.mpr c76)])), rfl, rfl⟩
    · refine wa_iconst (x := 0) dX7_why_37 (by decide) ?_
      refine wa_goto 42 dX7_why_38 rfl ?_
      simp only [row_th, row_net hm] at *
      first
      | exact wa_ireturn dX7_why_42 ⟨Nat.le_refl _, Nat.le_refl _, ⟨_, rfl, rfl⟩, (ri (by rw [if_pos c25, if_pos (Int32.not_le.mp c34)])), rfl, rfl⟩
      | exact wa_ireturn dX7_why_42 ⟨Nat.le_refl _, Nat.le_refl _, ⟨_, rfl, rfl⟩, (ri (by rw [if_pos c25, if_neg (Int32.not_lt.mpr c34)])), rfl, rfl⟩
      | exact wa_ireturn dX7_why_42 ⟨Nat.le_refl _, Nat.le_refl _, ⟨_, rfl, rfl⟩, (ri (by rw [if_neg (not_not_intro c25), if_pos (Int32.not_le.mp c50)])), rfl, rfl⟩
      | exact wa_ireturn dX7_why_42 ⟨Nat.le_refl _, Nat.le_refl _, ⟨_, rfl, rfl⟩, (ri (by rw [if_neg (not_not_intro c25), if_neg (Int32.not_lt.mpr c50), if_pos (b2i_t c60)])), rfl, rfl⟩
      | exact wa_ireturn dX7_why_42 ⟨Nat.le_refl _, Nat.le_refl _, ⟨_, rfl, rfl⟩, (ri (by rw [if_neg (not_not_intro c25), if_neg (Int32.not_lt.mpr c50), if_neg (b2i_f c60), if_pos (Int32.not_le.mp c76)])), rfl, rfl⟩
      | exact wa_ireturn dX7_why_42 ⟨Nat.le_refl _, Nat.le_refl _, ⟨_, rfl, rfl⟩, (ri (by rw [if_neg (not_not_intro c25), if_neg (Int32.not_lt.mpr c50), if_neg (b2i_f c60), if_neg (Int32.not_lt.mpr c76)])), rfl, rfl⟩
theorem mm_property_1 {n : Nat} {S : SS} {T : Int} (hn : 279 ≤ n) (hm : mr S = 268) (hV : VG T (S.1 268)) (x : Int32) (h1 : ¬ (inr x 0 11)) : AM yX7_property cX7_property 2 (some .int) [] 2 0 0 [.ref 267, .int x] n (Hp S) (PI 0 n (th S 1)) := by
  intro has
  change WA RX7 cX7_property 2 [] _ _ 0 0 0 [some (.ref 267), some (.int x)] [] n _
  have hVr : VG T (row S) := by rw [row_net hm]; exact hV
  refine wa_aload_n dX7_property_0 rfl ?_
  refine wa_iload_n dX7_property_1 rfl ?_
  refine wa_i2l dX7_property_2 ?_
  refine wa_lconst (x := 0) dX7_property_3 (by decide) ?_
  refine wa_ldc2 dX7_property_4 wv_X7_345 ?_
  refine c_SI dX7_property_7 (mm_inI (a := x) (b := 0) (c := 11) (by first | rfl | decide) (by first | rfl | decide)) lk_X7_60 rfl ?_
  refine c_VI dX7_property_10 (mm_passes1 (by assumption) (inr x 0 11)) lk_X7_155 rfl (isO_MO _ _ _) rfl (ltS (by assumption)) ?_
  rw [b2i_0 (fun z => h1 z), if_neg h1]
  refine wa_if_ne 18 dX7_property_13 rfl (fun c13 => absurd rfl c13) (fun c13 => ?_)
  refine wa_iconst (x := 0) dX7_property_16 (by decide) ?_
  exact wa_ireturn dX7_property_17 ⟨Nat.le_refl _, Nat.le_refl _, ⟨_, rfl, rfl⟩, rfl, rfl, rfl⟩
theorem mm_property_0_0 {n : Nat} {S : SS} {T : Int} (hn : 279 ≤ n) (hm : mr S = 268) (hV : VG T (S.1 268)) : AM yX7_property cX7_property 2 (some .int) [] 2 0 0 [.ref 267, .int 0] n (Hp S) (PI (S.1 268 0) n (th S 0)) := by
  intro has
  change WA RX7 cX7_property 2 [] _ _ 0 0 0 [some (.ref 267), some (.int 0)] [] n _
  have hVr : VG T (row S) := by rw [row_net hm]; exact hV
  have h1 : inr ((0 : Int32)) 0 11 := by decide
  refine wa_aload_n dX7_property_0 rfl ?_
  refine wa_iload_n dX7_property_1 rfl ?_
  refine wa_i2l dX7_property_2 ?_
  refine wa_lconst (x := 0) dX7_property_3 (by decide) ?_
  refine wa_ldc2 dX7_property_4 wv_X7_345 ?_
  refine c_SI dX7_property_7 (mm_inI (a := 0) (b := 0) (c := 11) (by first | rfl | decide) (by first | rfl | decide)) lk_X7_60 rfl ?_
  refine c_VI dX7_property_10 (mm_passes1 (by assumption) (inr 0 0 11)) lk_X7_155 rfl (isO_MO _ _ _) rfl (ltS (by assumption)) ?_
  rw [b2i_1 h1, if_pos h1]
  refine wa_if_ne 18 dX7_property_13 rfl (fun c13 => ?_) (fun c13 => absurd c13 (by decide))
  refine wa_iload_n dX7_property_18 rfl ?_
  refine wa_tableIn 52 dX7_property_19 (by decide) (by decide) rfl rfl ?_
  refine wa_aload_n dX7_property_52 rfl ?_
  refine c_VI dX7_property_53 (mm_rooms (by assumption)) lk_X7_56 rfl (isO_MO _ _ _) rfl (ltS (by assumption)) ?_
  exact wa_ireturn dX7_property_56 ⟨Nat.le_refl _, Nat.le_refl _, ⟨_, rfl, rfl⟩, (ri (by first | rfl | rw [th_net] | (exact (congrFun ((row_th S 0).trans (row_net hm)) 0)))), rfl, rfl⟩
theorem mm_property_0_1 {n : Nat} {S : SS} {T : Int} (hn : 279 ≤ n) (hm : mr S = 268) (hV : VG T (S.1 268)) : AM yX7_property cX7_property 2 (some .int) [] 2 0 0 [.ref 267, .int 1] n (Hp S) (PI (S.1 268 1) n (th S 0)) := by
  intro has
  change WA RX7 cX7_property 2 [] _ _ 0 0 0 [some (.ref 267), some (.int 1)] [] n _
  have hVr : VG T (row S) := by rw [row_net hm]; exact hV
  have h1 : inr ((1 : Int32)) 0 11 := by decide
  refine wa_aload_n dX7_property_0 rfl ?_
  refine wa_iload_n dX7_property_1 rfl ?_
  refine wa_i2l dX7_property_2 ?_
  refine wa_lconst (x := 0) dX7_property_3 (by decide) ?_
  refine wa_ldc2 dX7_property_4 wv_X7_345 ?_
  refine c_SI dX7_property_7 (mm_inI (a := 1) (b := 0) (c := 11) (by first | rfl | decide) (by first | rfl | decide)) lk_X7_60 rfl ?_
  refine c_VI dX7_property_10 (mm_passes1 (by assumption) (inr 1 0 11)) lk_X7_155 rfl (isO_MO _ _ _) rfl (ltS (by assumption)) ?_
  rw [b2i_1 h1, if_pos h1]
  refine wa_if_ne 18 dX7_property_13 rfl (fun c13 => ?_) (fun c13 => absurd c13 (by decide))
  refine wa_iload_n dX7_property_18 rfl ?_
  refine wa_tableIn 57 dX7_property_19 (by decide) (by decide) rfl rfl ?_
  refine wa_aload_n dX7_property_57 rfl ?_
  refine g_MO (by assumption) 1 dX7_property_58 fl_X7_17 (by decide) rfl ?_
  refine wa_iconst (x := 1) dX7_property_61 (by decide) ?_
  refine s_iald (j := 1) isA_net dX7_property_62 (ltS (by assumption)) rfl (by decide) ?_
  exact wa_ireturn dX7_property_63 ⟨Nat.le_refl _, Nat.le_refl _, ⟨_, rfl, rfl⟩, (ri (by first | rfl | rw [th_net] | (exact (congrFun ((row_th S 0).trans (row_net hm)) 0)))), rfl, rfl⟩
theorem mm_property_0_2 {n : Nat} {S : SS} {T : Int} (hn : 279 ≤ n) (hm : mr S = 268) (hV : VG T (S.1 268)) : AM yX7_property cX7_property 2 (some .int) [] 2 0 0 [.ref 267, .int 2] n (Hp S) (PI (S.1 268 1 - S.1 268 1 / 48 * 48) n (th S 0)) := by
  intro has
  change WA RX7 cX7_property 2 [] _ _ 0 0 0 [some (.ref 267), some (.int 2)] [] n _
  have hVr : VG T (row S) := by rw [row_net hm]; exact hV
  have h1 : inr ((2 : Int32)) 0 11 := by decide
  refine wa_aload_n dX7_property_0 rfl ?_
  refine wa_iload_n dX7_property_1 rfl ?_
  refine wa_i2l dX7_property_2 ?_
  refine wa_lconst (x := 0) dX7_property_3 (by decide) ?_
  refine wa_ldc2 dX7_property_4 wv_X7_345 ?_
  refine c_SI dX7_property_7 (mm_inI (a := 2) (b := 0) (c := 11) (by first | rfl | decide) (by first | rfl | decide)) lk_X7_60 rfl ?_
  refine c_VI dX7_property_10 (mm_passes1 (by assumption) (inr 2 0 11)) lk_X7_155 rfl (isO_MO _ _ _) rfl (ltS (by assumption)) ?_
  rw [b2i_1 h1, if_pos h1]
  refine wa_if_ne 18 dX7_property_13 rfl (fun c13 => ?_) (fun c13 => absurd c13 (by decide))
  refine wa_iload_n dX7_property_18 rfl ?_
  refine wa_tableIn 64 dX7_property_19 (by decide) (by decide) rfl rfl ?_
  refine wa_aload_n dX7_property_64 rfl ?_
  refine g_MO (by assumption) 1 dX7_property_65 fl_X7_17 (by decide) rfl ?_
  refine wa_iconst (x := 1) dX7_property_68 (by decide) ?_
  refine s_iald (j := 1) isA_net dX7_property_69 (ltS (by assumption)) rfl (by decide) ?_
  refine wa_bipush (x := 48) dX7_property_70 (by decide) ?_
  refine wa_irem dX7_property_72 (by decide) ?_
  exact wa_ireturn dX7_property_73 ⟨Nat.le_refl _, Nat.le_refl _, ⟨_, rfl, rfl⟩, (ri (by first | rfl | rw [th_net] | (exact (congrFun ((row_th S 0).trans (row_net hm)) 0)))), rfl, rfl⟩
theorem mm_property_0_3 {n : Nat} {S : SS} {T : Int} (hn : 279 ≤ n) (hm : mr S = 268) (hV : VG T (S.1 268)) : AM yX7_property cX7_property 2 (some .int) [] 2 0 0 [.ref 267, .int 3] n (Hp S) (PI (S.1 268 2) n (th S 0)) := by
  intro has
  change WA RX7 cX7_property 2 [] _ _ 0 0 0 [some (.ref 267), some (.int 3)] [] n _
  have hVr : VG T (row S) := by rw [row_net hm]; exact hV
  have h1 : inr ((3 : Int32)) 0 11 := by decide
  refine wa_aload_n dX7_property_0 rfl ?_
  refine wa_iload_n dX7_property_1 rfl ?_
  refine wa_i2l dX7_property_2 ?_
  refine wa_lconst (x := 0) dX7_property_3 (by decide) ?_
  refine wa_ldc2 dX7_property_4 wv_X7_345 ?_
  refine c_SI dX7_property_7 (mm_inI (a := 3) (b := 0) (c := 11) (by first | rfl | decide) (by first | rfl | decide)) lk_X7_60 rfl ?_
  refine c_VI dX7_property_10 (mm_passes1 (by assumption) (inr 3 0 11)) lk_X7_155 rfl (isO_MO _ _ _) rfl (ltS (by assumption)) ?_
  rw [b2i_1 h1, if_pos h1]
  refine wa_if_ne 18 dX7_property_13 rfl (fun c13 => ?_) (fun c13 => absurd c13 (by decide))
  refine wa_iload_n dX7_property_18 rfl ?_
  refine wa_tableIn 74 dX7_property_19 (by decide) (by decide) rfl rfl ?_
  refine wa_aload_n dX7_property_74 rfl ?_
  refine g_MO (by assumption) 1 dX7_property_75 fl_X7_17 (by decide) rfl ?_
  refine wa_iconst (x := 2) dX7_property_78 (by decide) ?_
  refine s_iald (j := 2) isA_net dX7_property_79 (ltS (by assumption)) rfl (by decide) ?_
  exact wa_ireturn dX7_property_80 ⟨Nat.le_refl _, Nat.le_refl _, ⟨_, rfl, rfl⟩, (ri (by first | rfl | rw [th_net] | (exact (congrFun ((row_th S 0).trans (row_net hm)) 0)))), rfl, rfl⟩
theorem mm_property_0_4 {n : Nat} {S : SS} {T : Int} (hn : 279 ≤ n) (hm : mr S = 268) (hV : VG T (S.1 268)) : AM yX7_property cX7_property 2 (some .int) [] 2 0 0 [.ref 267, .int 4] n (Hp S) (PI (S.1 268 3) n (th S 0)) := by
  intro has
  change WA RX7 cX7_property 2 [] _ _ 0 0 0 [some (.ref 267), some (.int 4)] [] n _
  have hVr : VG T (row S) := by rw [row_net hm]; exact hV
  have h1 : inr ((4 : Int32)) 0 11 := by decide
  refine wa_aload_n dX7_property_0 rfl ?_
  refine wa_iload_n dX7_property_1 rfl ?_
  refine wa_i2l dX7_property_2 ?_
  refine wa_lconst (x := 0) dX7_property_3 (by decide) ?_
  refine wa_ldc2 dX7_property_4 wv_X7_345 ?_
  refine c_SI dX7_property_7 (mm_inI (a := 4) (b := 0) (c := 11) (by first | rfl | decide) (by first | rfl | decide)) lk_X7_60 rfl ?_
  refine c_VI dX7_property_10 (mm_passes1 (by assumption) (inr 4 0 11)) lk_X7_155 rfl (isO_MO _ _ _) rfl (ltS (by assumption)) ?_
  rw [b2i_1 h1, if_pos h1]
  refine wa_if_ne 18 dX7_property_13 rfl (fun c13 => ?_) (fun c13 => absurd c13 (by decide))
  refine wa_iload_n dX7_property_18 rfl ?_
  refine wa_tableIn 81 dX7_property_19 (by decide) (by decide) rfl rfl ?_
  refine wa_aload_n dX7_property_81 rfl ?_
  refine g_MO (by assumption) 1 dX7_property_82 fl_X7_17 (by decide) rfl ?_
  refine wa_iconst (x := 3) dX7_property_85 (by decide) ?_
  refine s_iald (j := 3) isA_net dX7_property_86 (ltS (by assumption)) rfl (by decide) ?_
  exact wa_ireturn dX7_property_87 ⟨Nat.le_refl _, Nat.le_refl _, ⟨_, rfl, rfl⟩, (ri (by first | rfl | rw [th_net] | (exact (congrFun ((row_th S 0).trans (row_net hm)) 0)))), rfl, rfl⟩
theorem mm_property_0_5 {n : Nat} {S : SS} {T : Int} (hn : 279 ≤ n) (hm : mr S = 268) (hV : VG T (S.1 268)) : AM yX7_property cX7_property 2 (some .int) [] 2 0 0 [.ref 267, .int 5] n (Hp S) (PI (S.1 268 4) n (th S 0)) := by
  intro has
  change WA RX7 cX7_property 2 [] _ _ 0 0 0 [some (.ref 267), some (.int 5)] [] n _
  have hVr : VG T (row S) := by rw [row_net hm]; exact hV
  have h1 : inr ((5 : Int32)) 0 11 := by decide
  refine wa_aload_n dX7_property_0 rfl ?_
  refine wa_iload_n dX7_property_1 rfl ?_
  refine wa_i2l dX7_property_2 ?_
  refine wa_lconst (x := 0) dX7_property_3 (by decide) ?_
  refine wa_ldc2 dX7_property_4 wv_X7_345 ?_
  refine c_SI dX7_property_7 (mm_inI (a := 5) (b := 0) (c := 11) (by first | rfl | decide) (by first | rfl | decide)) lk_X7_60 rfl ?_
  refine c_VI dX7_property_10 (mm_passes1 (by assumption) (inr 5 0 11)) lk_X7_155 rfl (isO_MO _ _ _) rfl (ltS (by assumption)) ?_
  rw [b2i_1 h1, if_pos h1]
  refine wa_if_ne 18 dX7_property_13 rfl (fun c13 => ?_) (fun c13 => absurd c13 (by decide))
  refine wa_iload_n dX7_property_18 rfl ?_
  refine wa_tableOut 88 dX7_property_19 (by decide) rfl ?_
  refine wa_aload_n dX7_property_88 rfl ?_
  refine g_MO (by assumption) 1 dX7_property_89 fl_X7_17 (by decide) rfl ?_
  refine wa_iconst (x := 4) dX7_property_92 (by decide) ?_
  refine wa_iload_n dX7_property_93 rfl ?_
  refine wa_iadd dX7_property_94 ?_
  refine wa_iconst (x := 5) dX7_property_95 (by decide) ?_
  refine wa_isub dX7_property_96 ?_
  refine s_iald (j := 4) isA_net dX7_property_97 (ltS (by assumption)) (by decide) (by decide) ?_
  exact wa_ireturn dX7_property_98 ⟨Nat.le_refl _, Nat.le_refl _, ⟨_, rfl, rfl⟩, (ri (by first | rfl | rw [th_net] | (exact (congrFun ((row_th S 0).trans (row_net hm)) 0)))), rfl, rfl⟩
theorem mm_property_0_6 {n : Nat} {S : SS} {T : Int} (hn : 279 ≤ n) (hm : mr S = 268) (hV : VG T (S.1 268)) : AM yX7_property cX7_property 2 (some .int) [] 2 0 0 [.ref 267, .int 6] n (Hp S) (PI (S.1 268 5) n (th S 0)) := by
  intro has
  change WA RX7 cX7_property 2 [] _ _ 0 0 0 [some (.ref 267), some (.int 6)] [] n _
  have hVr : VG T (row S) := by rw [row_net hm]; exact hV
  have h1 : inr ((6 : Int32)) 0 11 := by decide
  refine wa_aload_n dX7_property_0 rfl ?_
  refine wa_iload_n dX7_property_1 rfl ?_
  refine wa_i2l dX7_property_2 ?_
  refine wa_lconst (x := 0) dX7_property_3 (by decide) ?_
  refine wa_ldc2 dX7_property_4 wv_X7_345 ?_
  refine c_SI dX7_property_7 (mm_inI (a := 6) (b := 0) (c := 11) (by first | rfl | decide) (by first | rfl | decide)) lk_X7_60 rfl ?_
  refine c_VI dX7_property_10 (mm_passes1 (by assumption) (inr 6 0 11)) lk_X7_155 rfl (isO_MO _ _ _) rfl (ltS (by assumption)) ?_
  rw [b2i_1 h1, if_pos h1]
  refine wa_if_ne 18 dX7_property_13 rfl (fun c13 => ?_) (fun c13 => absurd c13 (by decide))
  refine wa_iload_n dX7_property_18 rfl ?_
  refine wa_tableOut 88 dX7_property_19 (by decide) rfl ?_
  refine wa_aload_n dX7_property_88 rfl ?_
  refine g_MO (by assumption) 1 dX7_property_89 fl_X7_17 (by decide) rfl ?_
  refine wa_iconst (x := 4) dX7_property_92 (by decide) ?_
  refine wa_iload_n dX7_property_93 rfl ?_
  refine wa_iadd dX7_property_94 ?_
  refine wa_iconst (x := 5) dX7_property_95 (by decide) ?_
  refine wa_isub dX7_property_96 ?_
  refine s_iald (j := 5) isA_net dX7_property_97 (ltS (by assumption)) (by decide) (by decide) ?_
  exact wa_ireturn dX7_property_98 ⟨Nat.le_refl _, Nat.le_refl _, ⟨_, rfl, rfl⟩, (ri (by first | rfl | rw [th_net] | (exact (congrFun ((row_th S 0).trans (row_net hm)) 0)))), rfl, rfl⟩
theorem mm_property_0_7 {n : Nat} {S : SS} {T : Int} (hn : 279 ≤ n) (hm : mr S = 268) (hV : VG T (S.1 268)) : AM yX7_property cX7_property 2 (some .int) [] 2 0 0 [.ref 267, .int 7] n (Hp S) (PI (S.1 268 6) n (th S 0)) := by
  intro has
  change WA RX7 cX7_property 2 [] _ _ 0 0 0 [some (.ref 267), some (.int 7)] [] n _
  have hVr : VG T (row S) := by rw [row_net hm]; exact hV
  have h1 : inr ((7 : Int32)) 0 11 := by decide
  refine wa_aload_n dX7_property_0 rfl ?_
  refine wa_iload_n dX7_property_1 rfl ?_
  refine wa_i2l dX7_property_2 ?_
  refine wa_lconst (x := 0) dX7_property_3 (by decide) ?_
  refine wa_ldc2 dX7_property_4 wv_X7_345 ?_
  refine c_SI dX7_property_7 (mm_inI (a := 7) (b := 0) (c := 11) (by first | rfl | decide) (by first | rfl | decide)) lk_X7_60 rfl ?_
  refine c_VI dX7_property_10 (mm_passes1 (by assumption) (inr 7 0 11)) lk_X7_155 rfl (isO_MO _ _ _) rfl (ltS (by assumption)) ?_
  rw [b2i_1 h1, if_pos h1]
  refine wa_if_ne 18 dX7_property_13 rfl (fun c13 => ?_) (fun c13 => absurd c13 (by decide))
  refine wa_iload_n dX7_property_18 rfl ?_
  refine wa_tableOut 88 dX7_property_19 (by decide) rfl ?_
  refine wa_aload_n dX7_property_88 rfl ?_
  refine g_MO (by assumption) 1 dX7_property_89 fl_X7_17 (by decide) rfl ?_
  refine wa_iconst (x := 4) dX7_property_92 (by decide) ?_
  refine wa_iload_n dX7_property_93 rfl ?_
  refine wa_iadd dX7_property_94 ?_
  refine wa_iconst (x := 5) dX7_property_95 (by decide) ?_
  refine wa_isub dX7_property_96 ?_
  refine s_iald (j := 6) isA_net dX7_property_97 (ltS (by assumption)) (by decide) (by decide) ?_
  exact wa_ireturn dX7_property_98 ⟨Nat.le_refl _, Nat.le_refl _, ⟨_, rfl, rfl⟩, (ri (by first | rfl | rw [th_net] | (exact (congrFun ((row_th S 0).trans (row_net hm)) 0)))), rfl, rfl⟩
theorem mm_property_0_8 {n : Nat} {S : SS} {T : Int} (hn : 279 ≤ n) (hm : mr S = 268) (hV : VG T (S.1 268)) : AM yX7_property cX7_property 2 (some .int) [] 2 0 0 [.ref 267, .int 8] n (Hp S) (PI (S.1 268 7) n (th S 0)) := by
  intro has
  change WA RX7 cX7_property 2 [] _ _ 0 0 0 [some (.ref 267), some (.int 8)] [] n _
  have hVr : VG T (row S) := by rw [row_net hm]; exact hV
  have h1 : inr ((8 : Int32)) 0 11 := by decide
  refine wa_aload_n dX7_property_0 rfl ?_
  refine wa_iload_n dX7_property_1 rfl ?_
  refine wa_i2l dX7_property_2 ?_
  refine wa_lconst (x := 0) dX7_property_3 (by decide) ?_
  refine wa_ldc2 dX7_property_4 wv_X7_345 ?_
  refine c_SI dX7_property_7 (mm_inI (a := 8) (b := 0) (c := 11) (by first | rfl | decide) (by first | rfl | decide)) lk_X7_60 rfl ?_
  refine c_VI dX7_property_10 (mm_passes1 (by assumption) (inr 8 0 11)) lk_X7_155 rfl (isO_MO _ _ _) rfl (ltS (by assumption)) ?_
  rw [b2i_1 h1, if_pos h1]
  refine wa_if_ne 18 dX7_property_13 rfl (fun c13 => ?_) (fun c13 => absurd c13 (by decide))
  refine wa_iload_n dX7_property_18 rfl ?_
  refine wa_tableOut 88 dX7_property_19 (by decide) rfl ?_
  refine wa_aload_n dX7_property_88 rfl ?_
  refine g_MO (by assumption) 1 dX7_property_89 fl_X7_17 (by decide) rfl ?_
  refine wa_iconst (x := 4) dX7_property_92 (by decide) ?_
  refine wa_iload_n dX7_property_93 rfl ?_
  refine wa_iadd dX7_property_94 ?_
  refine wa_iconst (x := 5) dX7_property_95 (by decide) ?_
  refine wa_isub dX7_property_96 ?_
  refine s_iald (j := 7) isA_net dX7_property_97 (ltS (by assumption)) (by decide) (by decide) ?_
  exact wa_ireturn dX7_property_98 ⟨Nat.le_refl _, Nat.le_refl _, ⟨_, rfl, rfl⟩, (ri (by first | rfl | rw [th_net] | (exact (congrFun ((row_th S 0).trans (row_net hm)) 0)))), rfl, rfl⟩
theorem mm_property_0_9 {n : Nat} {S : SS} {T : Int} (hn : 279 ≤ n) (hm : mr S = 268) (hV : VG T (S.1 268)) : AM yX7_property cX7_property 2 (some .int) [] 2 0 0 [.ref 267, .int 9] n (Hp S) (PI (S.1 268 8) n (th S 0)) := by
  intro has
  change WA RX7 cX7_property 2 [] _ _ 0 0 0 [some (.ref 267), some (.int 9)] [] n _
  have hVr : VG T (row S) := by rw [row_net hm]; exact hV
  have h1 : inr ((9 : Int32)) 0 11 := by decide
  refine wa_aload_n dX7_property_0 rfl ?_
  refine wa_iload_n dX7_property_1 rfl ?_
  refine wa_i2l dX7_property_2 ?_
  refine wa_lconst (x := 0) dX7_property_3 (by decide) ?_
  refine wa_ldc2 dX7_property_4 wv_X7_345 ?_
  refine c_SI dX7_property_7 (mm_inI (a := 9) (b := 0) (c := 11) (by first | rfl | decide) (by first | rfl | decide)) lk_X7_60 rfl ?_
  refine c_VI dX7_property_10 (mm_passes1 (by assumption) (inr 9 0 11)) lk_X7_155 rfl (isO_MO _ _ _) rfl (ltS (by assumption)) ?_
  rw [b2i_1 h1, if_pos h1]
  refine wa_if_ne 18 dX7_property_13 rfl (fun c13 => ?_) (fun c13 => absurd c13 (by decide))
  refine wa_iload_n dX7_property_18 rfl ?_
  refine wa_tableOut 88 dX7_property_19 (by decide) rfl ?_
  refine wa_aload_n dX7_property_88 rfl ?_
  refine g_MO (by assumption) 1 dX7_property_89 fl_X7_17 (by decide) rfl ?_
  refine wa_iconst (x := 4) dX7_property_92 (by decide) ?_
  refine wa_iload_n dX7_property_93 rfl ?_
  refine wa_iadd dX7_property_94 ?_
  refine wa_iconst (x := 5) dX7_property_95 (by decide) ?_
  refine wa_isub dX7_property_96 ?_
  refine s_iald (j := 8) isA_net dX7_property_97 (ltS (by assumption)) (by decide) (by decide) ?_
  exact wa_ireturn dX7_property_98 ⟨Nat.le_refl _, Nat.le_refl _, ⟨_, rfl, rfl⟩, (ri (by first | rfl | rw [th_net] | (exact (congrFun ((row_th S 0).trans (row_net hm)) 0)))), rfl, rfl⟩
theorem mm_property_0_10 {n : Nat} {S : SS} {T : Int} (hn : 279 ≤ n) (hm : mr S = 268) (hV : VG T (S.1 268)) : AM yX7_property cX7_property 2 (some .int) [] 2 0 0 [.ref 267, .int 10] n (Hp S) (PI (S.1 268 9) n (th S 0)) := by
  intro has
  change WA RX7 cX7_property 2 [] _ _ 0 0 0 [some (.ref 267), some (.int 10)] [] n _
  have hVr : VG T (row S) := by rw [row_net hm]; exact hV
  have h1 : inr ((10 : Int32)) 0 11 := by decide
  refine wa_aload_n dX7_property_0 rfl ?_
  refine wa_iload_n dX7_property_1 rfl ?_
  refine wa_i2l dX7_property_2 ?_
  refine wa_lconst (x := 0) dX7_property_3 (by decide) ?_
  refine wa_ldc2 dX7_property_4 wv_X7_345 ?_
  refine c_SI dX7_property_7 (mm_inI (a := 10) (b := 0) (c := 11) (by first | rfl | decide) (by first | rfl | decide)) lk_X7_60 rfl ?_
  refine c_VI dX7_property_10 (mm_passes1 (by assumption) (inr 10 0 11)) lk_X7_155 rfl (isO_MO _ _ _) rfl (ltS (by assumption)) ?_
  rw [b2i_1 h1, if_pos h1]
  refine wa_if_ne 18 dX7_property_13 rfl (fun c13 => ?_) (fun c13 => absurd c13 (by decide))
  refine wa_iload_n dX7_property_18 rfl ?_
  refine wa_tableOut 88 dX7_property_19 (by decide) rfl ?_
  refine wa_aload_n dX7_property_88 rfl ?_
  refine g_MO (by assumption) 1 dX7_property_89 fl_X7_17 (by decide) rfl ?_
  refine wa_iconst (x := 4) dX7_property_92 (by decide) ?_
  refine wa_iload_n dX7_property_93 rfl ?_
  refine wa_iadd dX7_property_94 ?_
  refine wa_iconst (x := 5) dX7_property_95 (by decide) ?_
  refine wa_isub dX7_property_96 ?_
  refine s_iald (j := 9) isA_net dX7_property_97 (ltS (by assumption)) (by decide) (by decide) ?_
  exact wa_ireturn dX7_property_98 ⟨Nat.le_refl _, Nat.le_refl _, ⟨_, rfl, rfl⟩, (ri (by first | rfl | rw [th_net] | (exact (congrFun ((row_th S 0).trans (row_net hm)) 0)))), rfl, rfl⟩
theorem mm_property_0_11 {n : Nat} {S : SS} {T : Int} (hn : 279 ≤ n) (hm : mr S = 268) (hV : VG T (S.1 268)) : AM yX7_property cX7_property 2 (some .int) [] 2 0 0 [.ref 267, .int 11] n (Hp S) (PI (S.1 268 10) n (th S 0)) := by
  intro has
  change WA RX7 cX7_property 2 [] _ _ 0 0 0 [some (.ref 267), some (.int 11)] [] n _
  have hVr : VG T (row S) := by rw [row_net hm]; exact hV
  have h1 : inr ((11 : Int32)) 0 11 := by decide
  refine wa_aload_n dX7_property_0 rfl ?_
  refine wa_iload_n dX7_property_1 rfl ?_
  refine wa_i2l dX7_property_2 ?_
  refine wa_lconst (x := 0) dX7_property_3 (by decide) ?_
  refine wa_ldc2 dX7_property_4 wv_X7_345 ?_
  refine c_SI dX7_property_7 (mm_inI (a := 11) (b := 0) (c := 11) (by first | rfl | decide) (by first | rfl | decide)) lk_X7_60 rfl ?_
  refine c_VI dX7_property_10 (mm_passes1 (by assumption) (inr 11 0 11)) lk_X7_155 rfl (isO_MO _ _ _) rfl (ltS (by assumption)) ?_
  rw [b2i_1 h1, if_pos h1]
  refine wa_if_ne 18 dX7_property_13 rfl (fun c13 => ?_) (fun c13 => absurd c13 (by decide))
  refine wa_iload_n dX7_property_18 rfl ?_
  refine wa_tableOut 88 dX7_property_19 (by decide) rfl ?_
  refine wa_aload_n dX7_property_88 rfl ?_
  refine g_MO (by assumption) 1 dX7_property_89 fl_X7_17 (by decide) rfl ?_
  refine wa_iconst (x := 4) dX7_property_92 (by decide) ?_
  refine wa_iload_n dX7_property_93 rfl ?_
  refine wa_iadd dX7_property_94 ?_
  refine wa_iconst (x := 5) dX7_property_95 (by decide) ?_
  refine wa_isub dX7_property_96 ?_
  refine s_iald (j := 10) isA_net dX7_property_97 (ltS (by assumption)) (by decide) (by decide) ?_
  exact wa_ireturn dX7_property_98 ⟨Nat.le_refl _, Nat.le_refl _, ⟨_, rfl, rfl⟩, (ri (by first | rfl | rw [th_net] | (exact (congrFun ((row_th S 0).trans (row_net hm)) 0)))), rfl, rfl⟩
