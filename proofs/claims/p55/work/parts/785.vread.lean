/-! ValveRoom: answers that change nothing. Written by program (wip/whole/gen/m785.py) but for the heads. -/
theorem vr_target_0 {n i : Nat} {S : SS} {g : Nat → Int32} {T : Int} (hn : 269 ≤ n) (h : HH S 34 g (fun _ => True)) (hg : GG T g) (hT : T ≤ 300000) (hi : i < rn g) : AM yX6_target cX6_target 2 (some .int) [] 2 0 0 [.ref 0, .int (nI i)] n (Hp S) (PI (tgt g i) n S) := by
  intro has
  change WA RX6 cX6_target 2 [] _ _ 0 0 0 [some (.ref 0), some (.int (nI i))] [] n _
  have hi6 : i < 6 := by have := hg.rn6; omega
  have hk := rk_l hg hi
  have hl := h.lvT hi
  refine wa_aload_n dX6_target_0 rfl ?_
  refine g_VR (by assumption) 4 dX6_target_1 fl_X6_26 (by decide) rfl ?_
  refine wa_aload_n dX6_target_4 rfl ?_
  refine wa_iload_n dX6_target_5 rfl ?_
  refine c_VA dX6_target_6 (vr_roomAt hn h hi6 hk.2) lk_X6_134 rfl (isO_VR _ _ _) rfl (ltS hn) ?_
  refine c_VI dX6_target_9 (hh_targetOf hn hl hg.t0 (hg.pre hi)) lk_X6_178 rfl (isH.HO hl.H _ _ _) rfl (lt_HO hl.H hn) ?_
  exact wa_ireturn dX6_target_12 ⟨Nat.le_refl _, Nat.le_refl _, ⟨_, rfl, rfl⟩, rfl, rfl, rfl⟩
theorem vr_wanted_0 {n i : Nat} {S : SS} {g : Nat → Int32} {T : Int} (hn : 269 ≤ n) (h : HH S 34 g (fun _ => True)) (hg : GG T g) (hT : T ≤ 300000) (hi : i < rn g) : AM yX6_wanted cX6_wanted 2 (some .int) [] 3 0 0 [.ref 0, .int (nI i)] n (Hp S) (PI (wnt g i) n S) := by
  intro has
  change WA RX6 cX6_wanted 2 [] _ _ 0 0 0 [some (.ref 0), some (.int (nI i))] [] n _
  have hi6 : i < 6 := by have := hg.rn6; omega
  have hk := rk_l hg hi
  have hl := h.lvT hi
  refine wa_aload_n dX6_wanted_0 rfl ?_
  refine g_VR (by assumption) 4 dX6_wanted_1 fl_X6_26 (by decide) rfl ?_
  refine wa_aload_n dX6_wanted_4 rfl ?_
  refine wa_iload_n dX6_wanted_5 rfl ?_
  refine c_VA dX6_wanted_6 (vr_roomAt hn h hi6 hk.2) lk_X6_134 rfl (isO_VR _ _ _) rfl (ltS hn) ?_
  refine c_VI dX6_wanted_9 (hh_positionWanted hn hl hg.t0 (hg.RG hi) (hg.OV hi hT)) lk_X6_197 rfl (isH.HO hl.H _ _ _) rfl (lt_HO hl.H hn) ?_
  exact wa_ireturn dX6_wanted_12 ⟨Nat.le_refl _, Nat.le_refl _, ⟨_, rfl, rfl⟩, rfl, rfl, rfl⟩
theorem vr_reckoned_0 {n i : Nat} {S : SS} {g : Nat → Int32} {T : Int} (hn : 269 ≤ n) (h : HH S 34 g (fun _ => True)) (hg : GG T g) (hT : T ≤ 300000) (hi : i < rn g) : AM yX6_reckoned cX6_reckoned 2 (some .int) [] 1 0 0 [.ref 0, .int (nI i)] n (Hp S) (PI (of g i 2) n S) := by
  intro has
  change WA RX6 cX6_reckoned 2 [] _ _ 0 0 0 [some (.ref 0), some (.int (nI i))] [] n _
  have hi6 : i < 6 := by have := hg.rn6; omega
  have hk := rk_l hg hi
  have hl := h.lvT hi
  refine wa_aload_n dX6_reckoned_0 rfl ?_
  refine wa_iload_n dX6_reckoned_1 rfl ?_
  refine c_VA dX6_reckoned_2 (vr_roomAt hn h hi6 hk.2) lk_X6_134 rfl (isO_VR _ _ _) rfl (ltS hn) ?_
  refine L_n hl hn 2 dX6_reckoned_5 fl_X6_146 (by decide) (fun _ _ _ => rfl) ?_
  exact wa_ireturn dX6_reckoned_8 ⟨Nat.le_refl _, Nat.le_refl _, ⟨_, rfl, rfl⟩, rfl, rfl, rfl⟩
theorem vr_count_0 {n i : Nat} {S : SS} {g : Nat → Int32} {T : Int} (hn : 269 ≤ n) (h : HH S 34 g (fun _ => True)) (hg : GG T g) (hT : T ≤ 300000) (hi : i < rn g) {w : Nat} (hw : w < 6) (h2 : inr (nI w) 0 5) : AM yX6_count cX6_count 4 (some .int) [] 1 0 0 [.ref 0, .int (nI i), .int (nI w)] n (Hp S) (PI (of g i (12 + w)) n S) := by
  intro has
  change WA RX6 cX6_count 4 [] _ _ 0 0 0 [some (.ref 0), some (.int (nI i)), some (.int (nI w)), none] [] n _
  have hi6 : i < 6 := by have := hg.rn6; omega
  have hk := rk_l hg hi
  have hl := h.lvT hi
  refine wa_aload_n dX6_count_0 rfl ?_
  refine wa_iload_n dX6_count_1 rfl ?_
  refine c_VA dX6_count_2 (vr_roomAt hn h hi6 hk.2) lk_X6_134 rfl (isO_VR _ _ _) rfl (ltS hn) ?_
  refine wa_astore_n dX6_count_5 rfl ?_
  refine wa_iload_n dX6_count_6 rfl ?_
  refine wa_iconst (x := 0) dX6_count_7 (by decide) ?_
  refine wa_iconst (x := 5) dX6_count_8 (by decide) ?_
  refine c_SV dX6_count_9 (vr_range h2.1 h2.2) lk_X6_62 rfl ?_
  refine wa_aload_n dX6_count_12 rfl ?_
  refine g_RO hl.R hn 12 dX6_count_13 fl_X6_174 (by decide) rfl ?_
  refine wa_iload_n dX6_count_16 rfl ?_
  refine L_cld hl hn w (ix_nI (by omega)) hw dX6_count_17 ?_
  exact wa_ireturn dX6_count_18 ⟨Nat.le_refl _, Nat.le_refl _, ⟨_, rfl, rfl⟩, rfl, rfl, rfl⟩
theorem vr_programmed_0 {n i : Nat} {S : SS} {g : Nat → Int32} {T : Int} (hn : 269 ≤ n) (h : HH S 34 g (fun _ => True)) (hg : GG T g) (hT : T ≤ 300000) (hi : i < rn g) {w : Nat} (hw : w < 48) (h2 : inr (nI w) 0 47) : AM yX6_programmed cX6_programmed 4 (some .int) [] 1 0 0 [.ref 0, .int (nI i), .int (nI w)] n (Hp S) (PI (told (pg g i) w) n S) := by
  intro has
  change WA RX6 cX6_programmed 4 [] _ _ 0 0 0 [some (.ref 0), some (.int (nI i)), some (.int (nI w)), none] [] n _
  have hi6 : i < 6 := by have := hg.rn6; omega
  have hk := rk_l hg hi
  have hl := h.lvT hi
  refine wa_aload_n dX6_programmed_0 rfl ?_
  refine wa_iload_n dX6_programmed_1 rfl ?_
  refine c_VA dX6_programmed_2 (vr_roomAt hn h hi6 hk.2) lk_X6_134 rfl (isO_VR _ _ _) rfl (ltS hn) ?_
  refine wa_astore_n dX6_programmed_5 rfl ?_
  refine wa_iload_n dX6_programmed_6 rfl ?_
  refine wa_iconst (x := 0) dX6_programmed_7 (by decide) ?_
  refine wa_bipush (x := 47) dX6_programmed_8 (by decide) ?_
  refine c_SV dX6_programmed_10 (vr_range h2.1 h2.2) lk_X6_62 rfl ?_
  refine wa_aload_n dX6_programmed_13 rfl ?_
  refine wa_iload_n dX6_programmed_14 rfl ?_
  refine c_VI dX6_programmed_15 (am_programmedAt hl.R hn hl.rp hw) lk_X6_182 rfl (isR.RO hl.R _ _ _) rfl (lt_RO hl.R hn) ?_
  exact wa_ireturn dX6_programmed_18 ⟨Nat.le_refl _, Nat.le_refl _, ⟨_, rfl, rfl⟩, rfl, rfl, rfl⟩
theorem mis_pos {T : Int} {g : Nat → Int32} {i : Nat} (hg : GG T g) (hT : T ≤ 300000) (hi : i < rn g) : mis g i ≤ 0 ↔ tgt g i ≤ of g i 0 := by
  have e := (mis_b (hg.2.2.2.2 i hi).2 hg.2.1 (hg.PT i) hg.T0 hT).1
  rw [Int32.le_iff_toInt_le, Int32.le_iff_toInt_le, e, Int32.toInt_zero]
  omega
theorem vr_why_0 {n i : Nat} {S : SS} {g : Nat → Int32} {T : Int} (hn : 269 ≤ n) (h : HH S 34 g (fun _ => True)) (hg : GG T g) (hT : T ≤ 300000) (hi : i < rn g) : AM yX6_why cX6_why 4 (some .int) [] 3 0 0 [.ref 0, .int (nI i)] n (Hp S) (PI (if ¬ of g i 1 = wnt g i then (if 0 < of g i 2 then 0 else 1) else if 0 < of g i 7 then 2 else if i_abs (mis g i) ≤ g 7 then 3 else if of g i 0 < tgt g i then 5 else 4) n S) := by
  intro has
  change WA RX6 cX6_why 4 [] _ _ 0 0 0 [some (.ref 0), some (.int (nI i)), none, none] [] n _
  have hi6 : i < 6 := by have := hg.rn6; omega
  have hk := rk_l hg hi
  have hl := h.lvT hi
  refine wa_aload_n dX6_why_0 rfl ?_
  refine wa_iload_n dX6_why_1 rfl ?_
  refine c_VA dX6_why_2 (vr_roomAt hn h hi6 hk.2) lk_X6_134 rfl (isO_VR _ _ _) rfl (ltS hn) ?_
  refine wa_astore_n dX6_why_5 rfl ?_
  refine wa_aload_n dX6_why_6 rfl ?_
  refine L_n hl hn 1 dX6_why_7 fl_X6_143 (by decide) (fun _ _ _ => rfl) ?_
  refine wa_aload_n dX6_why_10 rfl ?_
  refine g_VR (by assumption) 4 dX6_why_11 fl_X6_26 (by decide) rfl ?_
  refine wa_aload_n dX6_why_14 rfl ?_
  refine c_VI dX6_why_15 (hh_positionWanted hn hl hg.t0 (hg.RG hi) (hg.OV hi hT)) lk_X6_197 rfl (isH.HO hl.H _ _ _) rfl (lt_HO hl.H hn) ?_
  refine wa_icmp_eq 34 dX6_why_18 rfl (fun c18 => ?_) (fun c18 => ?_)
  · refine wa_aload_n dX6_why_34 rfl ?_
    refine L_n hl hn 7 dX6_why_35 fl_X6_162 (by decide) (fun _ _ _ => rfl) ?_
    refine wa_if_le 43 dX6_why_38 rfl (fun c38 => ?_) (fun c38 => ?_)
    · refine wa_aload_n dX6_why_43 rfl ?_
      refine g_VR (by assumption) 4 dX6_why_44 fl_X6_26 (by decide) rfl ?_
      refine wa_aload_n dX6_why_47 rfl ?_
      refine c_VI dX6_why_48 (hh_missingTo hn hl hg.t0 (hg.pre hi)) lk_X6_200 rfl (isH.HO hl.H _ _ _) rfl (lt_HO hl.H hn) ?_
      refine wa_istore_n dX6_why_51 rfl ?_
      refine wa_iload_n dX6_why_52 rfl ?_
      refine c_SI dX6_why_53 (am_abs _) lk_X6_203 rfl ?_
      refine wa_aload_n dX6_why_56 rfl ?_
      refine g_VR (by assumption) 4 dX6_why_57 fl_X6_26 (by decide) rfl ?_
      refine H_hd h hn 5 dX6_why_60 fl_X6_122 (by decide) (by decide) (fun _ _ _ => rfl) ?_
      rw [show g (hm 5) = g 7 from rfl]
      refine wa_icmp_gt 68 dX6_why_63 rfl (fun c63 => ?_) (fun c63 => ?_)
      · refine wa_iload_n dX6_why_68 rfl ?_
        refine wa_if_le 76 dX6_why_69 rfl (fun c69 => ?_) (fun c69 => ?_)
        · refine wa_iconst (x := 4) dX6_why_76 (by decide) ?_
          first
          | exact wa_ireturn dX6_why_77 ⟨Nat.le_refl _, Nat.le_refl _, ⟨_, rfl, rfl⟩, (ri (by rw [if_pos c18, if_pos (Int32.not_le.mp c25)])), rfl, rfl⟩
          | exact wa_ireturn dX6_why_77 ⟨Nat.le_refl _, Nat.le_refl _, ⟨_, rfl, rfl⟩, (ri (by rw [if_pos c18, if_neg (Int32.not_lt.mpr c25)])), rfl, rfl⟩
          | exact wa_ireturn dX6_why_77 ⟨Nat.le_refl _, Nat.le_refl _, ⟨_, rfl, rfl⟩, (ri (by rw [if_neg (not_not_intro c18), if_pos (Int32.not_le.mp c38)])), rfl, rfl⟩
          | exact wa_ireturn dX6_why_77 ⟨Nat.le_refl _, Nat.le_refl _, ⟨_, rfl, rfl⟩, (ri (by rw [if_neg (not_not_intro c18), if_neg (Int32.not_lt.mpr c38), if_pos (Int32.not_lt.mp c63)])), rfl, rfl⟩
          | exact wa_ireturn dX6_why_77 ⟨Nat.le_refl _, Nat.le_refl _, ⟨_, rfl, rfl⟩, (ri (by rw [if_neg (not_not_intro c18), if_neg (Int32.not_lt.mpr c38), if_neg (Int32.not_le.mpr c63), if_pos (Int32.not_le.mp (fun z => c69 ((mis_pos hg hT hi).mpr z)))])), rfl, rfl⟩
          | exact wa_ireturn dX6_why_77 ⟨Nat.le_refl _, Nat.le_refl _, ⟨_, rfl, rfl⟩, (ri (by rw [if_neg (not_not_intro c18), if_neg (Int32.not_lt.mpr c38), if_neg (Int32.not_le.mpr c63), if_neg (Int32.not_lt.mpr ((mis_pos hg hT hi).mp c69))])), rfl, rfl⟩
        · refine wa_iconst (x := 5) dX6_why_72 (by decide) ?_
          refine wa_goto 77 dX6_why_73 rfl ?_
          first
          | exact wa_ireturn dX6_why_77 ⟨Nat.le_refl _, Nat.le_refl _, ⟨_, rfl, rfl⟩, (ri (by rw [if_pos c18, if_pos (Int32.not_le.mp c25)])), rfl, rfl⟩
          | exact wa_ireturn dX6_why_77 ⟨Nat.le_refl _, Nat.le_refl _, ⟨_, rfl, rfl⟩, (ri (by rw [if_pos c18, if_neg (Int32.not_lt.mpr c25)])), rfl, rfl⟩
          | exact wa_ireturn dX6_why_77 ⟨Nat.le_refl _, Nat.le_refl _, ⟨_, rfl, rfl⟩, (ri (by rw [if_neg (not_not_intro c18), if_pos (Int32.not_le.mp c38)])), rfl, rfl⟩
          | exact wa_ireturn dX6_why_77 ⟨Nat.le_refl _, Nat.le_refl _, ⟨_, rfl, rfl⟩, (ri (by rw [if_neg (not_not_intro c18), if_neg (Int32.not_lt.mpr c38), if_pos (Int32.not_lt.mp c63)])), rfl, rfl⟩
          | exact wa_ireturn dX6_why_77 ⟨Nat.le_refl _, Nat.le_refl _, ⟨_, rfl, rfl⟩, (ri (by rw [if_neg (not_not_intro c18), if_neg (Int32.not_lt.mpr c38), if_neg (Int32.not_le.mpr c63), if_pos (Int32.not_le.mp (fun z => c69 ((mis_pos hg hT hi).mpr z)))])), rfl, rfl⟩
          | exact wa_ireturn dX6_why_77 ⟨Nat.le_refl _, Nat.le_refl _, ⟨_, rfl, rfl⟩, (ri (by rw [if_neg (not_not_intro c18), if_neg (Int32.not_lt.mpr c38), if_neg (Int32.not_le.mpr c63), if_neg (Int32.not_lt.mpr ((mis_pos hg hT hi).mp c69))])), rfl, rfl⟩
      · refine wa_iconst (x := 3) dX6_why_66 (by decide) ?_
        first
        | exact wa_ireturn dX6_why_67 ⟨Nat.le_refl _, Nat.le_refl _, ⟨_, rfl, rfl⟩, (ri (by rw [if_pos c18, if_pos (Int32.not_le.mp c25)])), rfl, rfl⟩
        | exact wa_ireturn dX6_why_67 ⟨Nat.le_refl _, Nat.le_refl _, ⟨_, rfl, rfl⟩, (ri (by rw [if_pos c18, if_neg (Int32.not_lt.mpr c25)])), rfl, rfl⟩
        | exact wa_ireturn dX6_why_67 ⟨Nat.le_refl _, Nat.le_refl _, ⟨_, rfl, rfl⟩, (ri (by rw [if_neg (not_not_intro c18), if_pos (Int32.not_le.mp c38)])), rfl, rfl⟩
        | exact wa_ireturn dX6_why_67 ⟨Nat.le_refl _, Nat.le_refl _, ⟨_, rfl, rfl⟩, (ri (by rw [if_neg (not_not_intro c18), if_neg (Int32.not_lt.mpr c38), if_pos (Int32.not_lt.mp c63)])), rfl, rfl⟩
        | exact wa_ireturn dX6_why_67 ⟨Nat.le_refl _, Nat.le_refl _, ⟨_, rfl, rfl⟩, (ri (by rw [if_neg (not_not_intro c18), if_neg (Int32.not_lt.mpr c38), if_neg (Int32.not_le.mpr c63), if_pos (Int32.not_le.mp (fun z => c69 ((mis_pos hg hT hi).mpr z)))])), rfl, rfl⟩
        | exact wa_ireturn dX6_why_67 ⟨Nat.le_refl _, Nat.le_refl _, ⟨_, rfl, rfl⟩, (ri (by rw [if_neg (not_not_intro c18), if_neg (Int32.not_lt.mpr c38), if_neg (Int32.not_le.mpr c63), if_neg (Int32.not_lt.mpr ((mis_pos hg hT hi).mp c69))])), rfl, rfl⟩
    · refine wa_iconst (x := 2) dX6_why_41 (by decide) ?_
      first
      | exact wa_ireturn dX6_why_42 ⟨Nat.le_refl _, Nat.le_refl _, ⟨_, rfl, rfl⟩, (ri (by rw [if_pos c18, if_pos (Int32.not_le.mp c25)])), rfl, rfl⟩
      | exact wa_ireturn dX6_why_42 ⟨Nat.le_refl _, Nat.le_refl _, ⟨_, rfl, rfl⟩, (ri (by rw [if_pos c18, if_neg (Int32.not_lt.mpr c25)])), rfl, rfl⟩
      | exact wa_ireturn dX6_why_42 ⟨Nat.le_refl _, Nat.le_refl _, ⟨_, rfl, rfl⟩, (ri (by rw [if_neg (not_not_intro c18), if_pos (Int32.not_le.mp c38)])), rfl, rfl⟩
      | exact wa_ireturn dX6_why_42 ⟨Nat.le_refl _, Nat.le_refl _, ⟨_, rfl, rfl⟩, (ri (by rw [if_neg (not_not_intro c18), if_neg (Int32.not_lt.mpr c38), if_pos (Int32.not_lt.mp c63)])), rfl, rfl⟩
      | exact wa_ireturn dX6_why_42 ⟨Nat.le_refl _, Nat.le_refl _, ⟨_, rfl, rfl⟩, (ri (by rw [if_neg (not_not_intro c18), if_neg (Int32.not_lt.mpr c38), if_neg (Int32.not_le.mpr c63), if_pos (Int32.not_le.mp (fun z => c69 ((mis_pos hg hT hi).mpr z)))])), rfl, rfl⟩
      | exact wa_ireturn dX6_why_42 ⟨Nat.le_refl _, Nat.le_refl _, ⟨_, rfl, rfl⟩, (ri (by rw [if_neg (not_not_intro c18), if_neg (Int32.not_lt.mpr c38), if_neg (Int32.not_le.mpr c63), if_neg (Int32.not_lt.mpr ((mis_pos hg hT hi).mp c69))])), rfl, rfl⟩
  · refine wa_aload_n dX6_why_21 rfl ?_
    refine L_n hl hn 2 dX6_why_22 fl_X6_146 (by decide) (fun _ _ _ => rfl) ?_
    refine wa_if_le 32 dX6_why_25 rfl (fun c25 => ?_) (fun c25 => ?_)
    · refine wa_iconst (x := 1) dX6_why_32 (by decide) ?_
      first
      | exact wa_ireturn dX6_why_33 ⟨Nat.le_refl _, Nat.le_refl _, ⟨_, rfl, rfl⟩, (ri (by rw [if_pos c18, if_pos (Int32.not_le.mp c25)])), rfl, rfl⟩
      | exact wa_ireturn dX6_why_33 ⟨Nat.le_refl _, Nat.le_refl _, ⟨_, rfl, rfl⟩, (ri (by rw [if_pos c18, if_neg (Int32.not_lt.mpr c25)])), rfl, rfl⟩
      | exact wa_ireturn dX6_why_33 ⟨Nat.le_refl _, Nat.le_refl _, ⟨_, rfl, rfl⟩, (ri (by rw [if_neg (not_not_intro c18), if_pos (Int32.not_le.mp c38)])), rfl, rfl⟩
      | exact wa_ireturn dX6_why_33 ⟨Nat.le_refl _, Nat.le_refl _, ⟨_, rfl, rfl⟩, (ri (by rw [if_neg (not_not_intro c18), if_neg (Int32.not_lt.mpr c38), if_pos (Int32.not_lt.mp c63)])), rfl, rfl⟩
      | exact wa_ireturn dX6_why_33 ⟨Nat.le_refl _, Nat.le_refl _, ⟨_, rfl, rfl⟩, (ri (by rw [if_neg (not_not_intro c18), if_neg (Int32.not_lt.mpr c38), if_neg (Int32.not_le.mpr c63), if_pos (Int32.not_le.mp (fun z => c69 ((mis_pos hg hT hi).mpr z)))])), rfl, rfl⟩
      | exact wa_ireturn dX6_why_33 ⟨Nat.le_refl _, Nat.le_refl _, ⟨_, rfl, rfl⟩, (ri (by rw [if_neg (not_not_intro c18), if_neg (Int32.not_lt.mpr c38), if_neg (Int32.not_le.mpr c63), if_neg (Int32.not_lt.mpr ((mis_pos hg hT hi).mp c69))])), rfl, rfl⟩
    · refine wa_iconst (x := 0) dX6_why_28 (by decide) ?_
      refine wa_goto 33 dX6_why_29 rfl ?_
      first
      | exact wa_ireturn dX6_why_33 ⟨Nat.le_refl _, Nat.le_refl _, ⟨_, rfl, rfl⟩, (ri (by rw [if_pos c18, if_pos (Int32.not_le.mp c25)])), rfl, rfl⟩
      | exact wa_ireturn dX6_why_33 ⟨Nat.le_refl _, Nat.le_refl _, ⟨_, rfl, rfl⟩, (ri (by rw [if_pos c18, if_neg (Int32.not_lt.mpr c25)])), rfl, rfl⟩
      | exact wa_ireturn dX6_why_33 ⟨Nat.le_refl _, Nat.le_refl _, ⟨_, rfl, rfl⟩, (ri (by rw [if_neg (not_not_intro c18), if_pos (Int32.not_le.mp c38)])), rfl, rfl⟩
      | exact wa_ireturn dX6_why_33 ⟨Nat.le_refl _, Nat.le_refl _, ⟨_, rfl, rfl⟩, (ri (by rw [if_neg (not_not_intro c18), if_neg (Int32.not_lt.mpr c38), if_pos (Int32.not_lt.mp c63)])), rfl, rfl⟩
      | exact wa_ireturn dX6_why_33 ⟨Nat.le_refl _, Nat.le_refl _, ⟨_, rfl, rfl⟩, (ri (by rw [if_neg (not_not_intro c18), if_neg (Int32.not_lt.mpr c38), if_neg (Int32.not_le.mpr c63), if_pos (Int32.not_le.mp (fun z => c69 ((mis_pos hg hT hi).mpr z)))])), rfl, rfl⟩
      | exact wa_ireturn dX6_why_33 ⟨Nat.le_refl _, Nat.le_refl _, ⟨_, rfl, rfl⟩, (ri (by rw [if_neg (not_not_intro c18), if_neg (Int32.not_lt.mpr c38), if_neg (Int32.not_le.mpr c63), if_neg (Int32.not_lt.mpr ((mis_pos hg hT hi).mp c69))])), rfl, rfl⟩
theorem vr_planned_0_0 {n : Nat} {S : SS} {g : Nat → Int32} {T : Int} (hn : 269 ≤ n) (h : HH S 34 g (fun _ => True)) (hg : GG T g) (hT : T ≤ 300000) {k : Nat} (hk : k < pn g) (h1 : 0 ≤ nI k ∧ nI k < g 3) : AM yX6_planned cX6_planned 3 (some .int) [] 1 0 0 [.ref 0, .int (nI k), .int 0] n (Hp S) (PI (g (11 + 3 * k + 0)) n S) := by
  intro has
  change WA RX6 cX6_planned 3 [] _ _ 0 0 0 [some (.ref 0), some (.int (nI k)), some (.int 0)] [] n _
  have h20 := hg.pn20
  refine wa_aload_n dX6_planned_0 rfl ?_
  refine wa_iload_n dX6_planned_1 rfl ?_
  refine c_VV dX6_planned_2 (vr_plan hn h h1) lk_X6_208 rfl (isO_VR _ _ _) rfl (ltS hn) ?_
  refine wa_iload_n dX6_planned_5 rfl ?_
  refine wa_iconst (x := 0) dX6_planned_6 (by decide) ?_
  refine wa_iconst (x := 2) dX6_planned_7 (by decide) ?_
  refine c_SV dX6_planned_8 (vr_range (by decide) (by decide)) lk_X6_62 rfl ?_
  refine wa_iload_n dX6_planned_11 rfl ?_
  refine wa_lookup (off := 28) 40 dX6_planned_12 (by decide) (by decide) rfl ?_
  refine wa_aload_n dX6_planned_40 rfl ?_
  refine g_VR (by assumption) 4 dX6_planned_41 fl_X6_26 (by decide) rfl ?_
  refine g_HO h.H hn 12 dX6_planned_44 fl_X6_211 (by decide) rfl ?_
  refine wa_iload_n dX6_planned_47 rfl ?_
  refine s_iald (j := k) (isH.pl h.H (o := 2) (by decide) (by decide)) dX6_planned_48 (lt_pl h.H hn) (ix_nI (by omega)) (by omega) ?_
  rw [show S.1 (34 + 2) k = g (11 + 3 * k + 0) from (h.2.2.1 k hk).1]
  exact wa_ireturn dX6_planned_49 ⟨Nat.le_refl _, Nat.le_refl _, ⟨_, rfl, rfl⟩, rfl, rfl, rfl⟩
theorem vr_planned_0_1 {n : Nat} {S : SS} {g : Nat → Int32} {T : Int} (hn : 269 ≤ n) (h : HH S 34 g (fun _ => True)) (hg : GG T g) (hT : T ≤ 300000) {k : Nat} (hk : k < pn g) (h1 : 0 ≤ nI k ∧ nI k < g 3) : AM yX6_planned cX6_planned 3 (some .int) [] 1 0 0 [.ref 0, .int (nI k), .int 1] n (Hp S) (PI (g (11 + 3 * k + 1)) n S) := by
  intro has
  change WA RX6 cX6_planned 3 [] _ _ 0 0 0 [some (.ref 0), some (.int (nI k)), some (.int 1)] [] n _
  have h20 := hg.pn20
  refine wa_aload_n dX6_planned_0 rfl ?_
  refine wa_iload_n dX6_planned_1 rfl ?_
  refine c_VV dX6_planned_2 (vr_plan hn h h1) lk_X6_208 rfl (isO_VR _ _ _) rfl (ltS hn) ?_
  refine wa_iload_n dX6_planned_5 rfl ?_
  refine wa_iconst (x := 0) dX6_planned_6 (by decide) ?_
  refine wa_iconst (x := 2) dX6_planned_7 (by decide) ?_
  refine c_SV dX6_planned_8 (vr_range (by decide) (by decide)) lk_X6_62 rfl ?_
  refine wa_iload_n dX6_planned_11 rfl ?_
  refine wa_lookup (off := 38) 50 dX6_planned_12 (by decide) (by decide) rfl ?_
  refine wa_aload_n dX6_planned_50 rfl ?_
  refine g_VR (by assumption) 4 dX6_planned_51 fl_X6_26 (by decide) rfl ?_
  refine g_HO h.H hn 13 dX6_planned_54 fl_X6_214 (by decide) rfl ?_
  refine wa_iload_n dX6_planned_57 rfl ?_
  refine s_iald (j := k) (isH.pl h.H (o := 3) (by decide) (by decide)) dX6_planned_58 (lt_pl h.H hn) (ix_nI (by omega)) (by omega) ?_
  rw [show S.1 (34 + 3) k = g (11 + 3 * k + 1) from (h.2.2.1 k hk).2.1]
  exact wa_ireturn dX6_planned_59 ⟨Nat.le_refl _, Nat.le_refl _, ⟨_, rfl, rfl⟩, rfl, rfl, rfl⟩
theorem vr_planned_0_2 {n : Nat} {S : SS} {g : Nat → Int32} {T : Int} (hn : 269 ≤ n) (h : HH S 34 g (fun _ => True)) (hg : GG T g) (hT : T ≤ 300000) {k : Nat} (hk : k < pn g) (h1 : 0 ≤ nI k ∧ nI k < g 3) : AM yX6_planned cX6_planned 3 (some .int) [] 1 0 0 [.ref 0, .int (nI k), .int 2] n (Hp S) (PI (g (11 + 3 * k + 2)) n S) := by
  intro has
  change WA RX6 cX6_planned 3 [] _ _ 0 0 0 [some (.ref 0), some (.int (nI k)), some (.int 2)] [] n _
  have h20 := hg.pn20
  refine wa_aload_n dX6_planned_0 rfl ?_
  refine wa_iload_n dX6_planned_1 rfl ?_
  refine c_VV dX6_planned_2 (vr_plan hn h h1) lk_X6_208 rfl (isO_VR _ _ _) rfl (ltS hn) ?_
  refine wa_iload_n dX6_planned_5 rfl ?_
  refine wa_iconst (x := 0) dX6_planned_6 (by decide) ?_
  refine wa_iconst (x := 2) dX6_planned_7 (by decide) ?_
  refine c_SV dX6_planned_8 (vr_range (by decide) (by decide)) lk_X6_62 rfl ?_
  refine wa_iload_n dX6_planned_11 rfl ?_
  refine wa_lookup (off := 48) 60 dX6_planned_12 (by decide) (by decide) rfl ?_
  refine wa_aload_n dX6_planned_60 rfl ?_
  refine g_VR (by assumption) 4 dX6_planned_61 fl_X6_26 (by decide) rfl ?_
  refine g_HO h.H hn 14 dX6_planned_64 fl_X6_217 (by decide) rfl ?_
  refine wa_iload_n dX6_planned_67 rfl ?_
  refine s_iald (j := k) (isH.pl h.H (o := 4) (by decide) (by decide)) dX6_planned_68 (lt_pl h.H hn) (ix_nI (by omega)) (by omega) ?_
  rw [show S.1 (34 + 4) k = g (11 + 3 * k + 2) from (h.2.2.1 k hk).2.2]
  exact wa_ireturn dX6_planned_69 ⟨Nat.le_refl _, Nat.le_refl _, ⟨_, rfl, rfl⟩, rfl, rfl, rfl⟩
theorem hh_tickOfDayH {n : Nat} {S : SS} {g : Nat → Int32} {T : Int} (hn : 269 ≤ n) (h : HH S 34 g (fun _ => True)) (hg : GG T g) : AM yX1_tickOfDay cX1_tickOfDay 1 (some .int) [] 0 0 0 [.ref 34] n (Hp S) (PI (g 1 - g 1 / 48 * 48) n S) := by
  intro has
  change WA RX1 cX1_tickOfDay 1 [] _ _ 0 0 0 [some (.ref 34)] [] n _
  refine wa_aload_n dX1_tickOfDay_0 rfl ?_
  refine H_hd h hn 0 dX1_tickOfDay_1 fl_X1_31 (by decide) (by decide) (fun _ _ _ => rfl) ?_
  refine wa_bipush (x := 48) dX1_tickOfDay_4 (by decide) ?_
  refine wa_irem dX1_tickOfDay_6 (by decide) ?_
  exact wa_ireturn dX1_tickOfDay_7 ⟨Nat.le_refl _, Nat.le_refl _, ⟨_, rfl, rfl⟩, rfl, rfl, rfl⟩
theorem vr_property_0_0 {n : Nat} {S : SS} {g : Nat → Int32} {T : Int} (hn : 269 ≤ n) (h : HH S 34 g (fun _ => True)) (hg : GG T g) : AM yX6_property cX6_property 2 (some .int) [] 1 0 0 [.ref 0, .int 0] n (Hp S) (PI (g 0) n S) := by
  intro has
  change WA RX6 cX6_property 2 [] _ _ 0 0 0 [some (.ref 0), some (.int 0)] [] n _
  refine wa_iload_n dX6_property_0 rfl ?_
  refine wa_iconst (x := 0) dX6_property_1 (by decide) ?_
  refine wa_bipush (x := 11) dX6_property_2 (by decide) ?_
  refine c_SV dX6_property_4 (vr_range (by decide) (by decide)) lk_X6_62 rfl ?_
  refine wa_iload_n dX6_property_7 rfl ?_
  refine wa_tableIn 68 dX6_property_8 (by decide) (by decide) rfl rfl ?_
  refine wa_aload_n dX6_property_68 rfl ?_
  refine g_VR (by assumption) 4 dX6_property_69 fl_X6_26 (by decide) rfl ?_
  refine H_hd h hn 9 dX6_property_72 fl_X6_89 (by decide) (by decide) (fun _ _ _ => rfl) ?_
  exact wa_ireturn dX6_property_75 ⟨Nat.le_refl _, Nat.le_refl _, ⟨_, rfl, rfl⟩, rfl, rfl, rfl⟩
theorem vr_property_0_1 {n : Nat} {S : SS} {g : Nat → Int32} {T : Int} (hn : 269 ≤ n) (h : HH S 34 g (fun _ => True)) (hg : GG T g) : AM yX6_property cX6_property 2 (some .int) [] 1 0 0 [.ref 0, .int 1] n (Hp S) (PI (g 1) n S) := by
  intro has
  change WA RX6 cX6_property 2 [] _ _ 0 0 0 [some (.ref 0), some (.int 1)] [] n _
  refine wa_iload_n dX6_property_0 rfl ?_
  refine wa_iconst (x := 0) dX6_property_1 (by decide) ?_
  refine wa_bipush (x := 11) dX6_property_2 (by decide) ?_
  refine c_SV dX6_property_4 (vr_range (by decide) (by decide)) lk_X6_62 rfl ?_
  refine wa_iload_n dX6_property_7 rfl ?_
  refine wa_tableIn 76 dX6_property_8 (by decide) (by decide) rfl rfl ?_
  refine wa_aload_n dX6_property_76 rfl ?_
  refine g_VR (by assumption) 4 dX6_property_77 fl_X6_26 (by decide) rfl ?_
  refine H_hd h hn 0 dX6_property_80 fl_X6_100 (by decide) (by decide) (fun _ _ _ => rfl) ?_
  exact wa_ireturn dX6_property_83 ⟨Nat.le_refl _, Nat.le_refl _, ⟨_, rfl, rfl⟩, rfl, rfl, rfl⟩
theorem vr_property_0_2 {n : Nat} {S : SS} {g : Nat → Int32} {T : Int} (hn : 269 ≤ n) (h : HH S 34 g (fun _ => True)) (hg : GG T g) : AM yX6_property cX6_property 2 (some .int) [] 1 0 0 [.ref 0, .int 2] n (Hp S) (PI (g 1 - g 1 / 48 * 48) n S) := by
  intro has
  change WA RX6 cX6_property 2 [] _ _ 0 0 0 [some (.ref 0), some (.int 2)] [] n _
  refine wa_iload_n dX6_property_0 rfl ?_
  refine wa_iconst (x := 0) dX6_property_1 (by decide) ?_
  refine wa_bipush (x := 11) dX6_property_2 (by decide) ?_
  refine c_SV dX6_property_4 (vr_range (by decide) (by decide)) lk_X6_62 rfl ?_
  refine wa_iload_n dX6_property_7 rfl ?_
  refine wa_tableIn 84 dX6_property_8 (by decide) (by decide) rfl rfl ?_
  refine wa_aload_n dX6_property_84 rfl ?_
  refine g_VR (by assumption) 4 dX6_property_85 fl_X6_26 (by decide) rfl ?_
  refine c_VI dX6_property_88 (hh_tickOfDayH hn h hg) lk_X6_103 rfl (isH.HO h.H _ _ _) rfl (lt_HO h.H hn) ?_
  exact wa_ireturn dX6_property_91 ⟨Nat.le_refl _, Nat.le_refl _, ⟨_, rfl, rfl⟩, rfl, rfl, rfl⟩
theorem vr_property_0_3 {n : Nat} {S : SS} {g : Nat → Int32} {T : Int} (hn : 269 ≤ n) (h : HH S 34 g (fun _ => True)) (hg : GG T g) : AM yX6_property cX6_property 2 (some .int) [] 1 0 0 [.ref 0, .int 3] n (Hp S) (PI (g 2) n S) := by
  intro has
  change WA RX6 cX6_property 2 [] _ _ 0 0 0 [some (.ref 0), some (.int 3)] [] n _
  refine wa_iload_n dX6_property_0 rfl ?_
  refine wa_iconst (x := 0) dX6_property_1 (by decide) ?_
  refine wa_bipush (x := 11) dX6_property_2 (by decide) ?_
  refine c_SV dX6_property_4 (vr_range (by decide) (by decide)) lk_X6_62 rfl ?_
  refine wa_iload_n dX6_property_7 rfl ?_
  refine wa_tableIn 92 dX6_property_8 (by decide) (by decide) rfl rfl ?_
  refine wa_aload_n dX6_property_92 rfl ?_
  refine g_VR (by assumption) 4 dX6_property_93 fl_X6_26 (by decide) rfl ?_
  refine H_hd h hn 1 dX6_property_96 fl_X6_107 (by decide) (by decide) (fun _ _ _ => rfl) ?_
  exact wa_ireturn dX6_property_99 ⟨Nat.le_refl _, Nat.le_refl _, ⟨_, rfl, rfl⟩, rfl, rfl, rfl⟩
theorem vr_property_0_4 {n : Nat} {S : SS} {g : Nat → Int32} {T : Int} (hn : 269 ≤ n) (h : HH S 34 g (fun _ => True)) (hg : GG T g) : AM yX6_property cX6_property 2 (some .int) [] 1 0 0 [.ref 0, .int 4] n (Hp S) (PI (g 3) n S) := by
  intro has
  change WA RX6 cX6_property 2 [] _ _ 0 0 0 [some (.ref 0), some (.int 4)] [] n _
  refine wa_iload_n dX6_property_0 rfl ?_
  refine wa_iconst (x := 0) dX6_property_1 (by decide) ?_
  refine wa_bipush (x := 11) dX6_property_2 (by decide) ?_
  refine c_SV dX6_property_4 (vr_range (by decide) (by decide)) lk_X6_62 rfl ?_
  refine wa_iload_n dX6_property_7 rfl ?_
  refine wa_tableIn 100 dX6_property_8 (by decide) (by decide) rfl rfl ?_
  refine wa_aload_n dX6_property_100 rfl ?_
  refine g_VR (by assumption) 4 dX6_property_101 fl_X6_26 (by decide) rfl ?_
  refine H_hd h hn 11 dX6_property_104 fl_X6_110 (by decide) (by decide) (fun _ _ _ => rfl) ?_
  exact wa_ireturn dX6_property_107 ⟨Nat.le_refl _, Nat.le_refl _, ⟨_, rfl, rfl⟩, rfl, rfl, rfl⟩
theorem vr_property_0_5 {n : Nat} {S : SS} {g : Nat → Int32} {T : Int} (hn : 269 ≤ n) (h : HH S 34 g (fun _ => True)) (hg : GG T g) : AM yX6_property cX6_property 2 (some .int) [] 1 0 0 [.ref 0, .int 5] n (Hp S) (PI (g 4) n S) := by
  intro has
  change WA RX6 cX6_property 2 [] _ _ 0 0 0 [some (.ref 0), some (.int 5)] [] n _
  refine wa_iload_n dX6_property_0 rfl ?_
  refine wa_iconst (x := 0) dX6_property_1 (by decide) ?_
  refine wa_bipush (x := 11) dX6_property_2 (by decide) ?_
  refine c_SV dX6_property_4 (vr_range (by decide) (by decide)) lk_X6_62 rfl ?_
  refine wa_iload_n dX6_property_7 rfl ?_
  refine wa_tableIn 108 dX6_property_8 (by decide) (by decide) rfl rfl ?_
  refine wa_aload_n dX6_property_108 rfl ?_
  refine g_VR (by assumption) 4 dX6_property_109 fl_X6_26 (by decide) rfl ?_
  refine H_hd h hn 2 dX6_property_112 fl_X6_113 (by decide) (by decide) (fun _ _ _ => rfl) ?_
  exact wa_ireturn dX6_property_115 ⟨Nat.le_refl _, Nat.le_refl _, ⟨_, rfl, rfl⟩, rfl, rfl, rfl⟩
theorem vr_property_0_6 {n : Nat} {S : SS} {g : Nat → Int32} {T : Int} (hn : 269 ≤ n) (h : HH S 34 g (fun _ => True)) (hg : GG T g) : AM yX6_property cX6_property 2 (some .int) [] 1 0 0 [.ref 0, .int 6] n (Hp S) (PI (g 5) n S) := by
  intro has
  change WA RX6 cX6_property 2 [] _ _ 0 0 0 [some (.ref 0), some (.int 6)] [] n _
  refine wa_iload_n dX6_property_0 rfl ?_
  refine wa_iconst (x := 0) dX6_property_1 (by decide) ?_
  refine wa_bipush (x := 11) dX6_property_2 (by decide) ?_
  refine c_SV dX6_property_4 (vr_range (by decide) (by decide)) lk_X6_62 rfl ?_
  refine wa_iload_n dX6_property_7 rfl ?_
  refine wa_tableIn 116 dX6_property_8 (by decide) (by decide) rfl rfl ?_
  refine wa_aload_n dX6_property_116 rfl ?_
  refine g_VR (by assumption) 4 dX6_property_117 fl_X6_26 (by decide) rfl ?_
  refine H_hd h hn 3 dX6_property_120 fl_X6_116 (by decide) (by decide) (fun _ _ _ => rfl) ?_
  exact wa_ireturn dX6_property_123 ⟨Nat.le_refl _, Nat.le_refl _, ⟨_, rfl, rfl⟩, rfl, rfl, rfl⟩
theorem vr_property_0_7 {n : Nat} {S : SS} {g : Nat → Int32} {T : Int} (hn : 269 ≤ n) (h : HH S 34 g (fun _ => True)) (hg : GG T g) : AM yX6_property cX6_property 2 (some .int) [] 1 0 0 [.ref 0, .int 7] n (Hp S) (PI (g 6) n S) := by
  intro has
  change WA RX6 cX6_property 2 [] _ _ 0 0 0 [some (.ref 0), some (.int 7)] [] n _
  refine wa_iload_n dX6_property_0 rfl ?_
  refine wa_iconst (x := 0) dX6_property_1 (by decide) ?_
  refine wa_bipush (x := 11) dX6_property_2 (by decide) ?_
  refine c_SV dX6_property_4 (vr_range (by decide) (by decide)) lk_X6_62 rfl ?_
  refine wa_iload_n dX6_property_7 rfl ?_
  refine wa_tableIn 124 dX6_property_8 (by decide) (by decide) rfl rfl ?_
  refine wa_aload_n dX6_property_124 rfl ?_
  refine g_VR (by assumption) 4 dX6_property_125 fl_X6_26 (by decide) rfl ?_
  refine H_hd h hn 4 dX6_property_128 fl_X6_119 (by decide) (by decide) (fun _ _ _ => rfl) ?_
  exact wa_ireturn dX6_property_131 ⟨Nat.le_refl _, Nat.le_refl _, ⟨_, rfl, rfl⟩, rfl, rfl, rfl⟩
theorem vr_property_0_8 {n : Nat} {S : SS} {g : Nat → Int32} {T : Int} (hn : 269 ≤ n) (h : HH S 34 g (fun _ => True)) (hg : GG T g) : AM yX6_property cX6_property 2 (some .int) [] 1 0 0 [.ref 0, .int 8] n (Hp S) (PI (g 7) n S) := by
  intro has
  change WA RX6 cX6_property 2 [] _ _ 0 0 0 [some (.ref 0), some (.int 8)] [] n _
  refine wa_iload_n dX6_property_0 rfl ?_
  refine wa_iconst (x := 0) dX6_property_1 (by decide) ?_
  refine wa_bipush (x := 11) dX6_property_2 (by decide) ?_
  refine c_SV dX6_property_4 (vr_range (by decide) (by decide)) lk_X6_62 rfl ?_
  refine wa_iload_n dX6_property_7 rfl ?_
  refine wa_tableIn 132 dX6_property_8 (by decide) (by decide) rfl rfl ?_
  refine wa_aload_n dX6_property_132 rfl ?_
  refine g_VR (by assumption) 4 dX6_property_133 fl_X6_26 (by decide) rfl ?_
  refine H_hd h hn 5 dX6_property_136 fl_X6_122 (by decide) (by decide) (fun _ _ _ => rfl) ?_
  exact wa_ireturn dX6_property_139 ⟨Nat.le_refl _, Nat.le_refl _, ⟨_, rfl, rfl⟩, rfl, rfl, rfl⟩
theorem vr_property_0_9 {n : Nat} {S : SS} {g : Nat → Int32} {T : Int} (hn : 269 ≤ n) (h : HH S 34 g (fun _ => True)) (hg : GG T g) : AM yX6_property cX6_property 2 (some .int) [] 1 0 0 [.ref 0, .int 9] n (Hp S) (PI (g 8) n S) := by
  intro has
  change WA RX6 cX6_property 2 [] _ _ 0 0 0 [some (.ref 0), some (.int 9)] [] n _
  refine wa_iload_n dX6_property_0 rfl ?_
  refine wa_iconst (x := 0) dX6_property_1 (by decide) ?_
  refine wa_bipush (x := 11) dX6_property_2 (by decide) ?_
  refine c_SV dX6_property_4 (vr_range (by decide) (by decide)) lk_X6_62 rfl ?_
  refine wa_iload_n dX6_property_7 rfl ?_
  refine wa_tableIn 140 dX6_property_8 (by decide) (by decide) rfl rfl ?_
  refine wa_aload_n dX6_property_140 rfl ?_
  refine g_VR (by assumption) 4 dX6_property_141 fl_X6_26 (by decide) rfl ?_
  refine H_hd h hn 6 dX6_property_144 fl_X6_125 (by decide) (by decide) (fun _ _ _ => rfl) ?_
  exact wa_ireturn dX6_property_147 ⟨Nat.le_refl _, Nat.le_refl _, ⟨_, rfl, rfl⟩, rfl, rfl, rfl⟩
theorem vr_property_0_10 {n : Nat} {S : SS} {g : Nat → Int32} {T : Int} (hn : 269 ≤ n) (h : HH S 34 g (fun _ => True)) (hg : GG T g) : AM yX6_property cX6_property 2 (some .int) [] 1 0 0 [.ref 0, .int 10] n (Hp S) (PI (g 9) n S) := by
  intro has
  change WA RX6 cX6_property 2 [] _ _ 0 0 0 [some (.ref 0), some (.int 10)] [] n _
  refine wa_iload_n dX6_property_0 rfl ?_
  refine wa_iconst (x := 0) dX6_property_1 (by decide) ?_
  refine wa_bipush (x := 11) dX6_property_2 (by decide) ?_
  refine c_SV dX6_property_4 (vr_range (by decide) (by decide)) lk_X6_62 rfl ?_
  refine wa_iload_n dX6_property_7 rfl ?_
  refine wa_tableIn 148 dX6_property_8 (by decide) (by decide) rfl rfl ?_
  refine wa_aload_n dX6_property_148 rfl ?_
  refine g_VR (by assumption) 4 dX6_property_149 fl_X6_26 (by decide) rfl ?_
  refine H_hd h hn 7 dX6_property_152 fl_X6_128 (by decide) (by decide) (fun _ _ _ => rfl) ?_
  exact wa_ireturn dX6_property_155 ⟨Nat.le_refl _, Nat.le_refl _, ⟨_, rfl, rfl⟩, rfl, rfl, rfl⟩
theorem vr_property_0_11 {n : Nat} {S : SS} {g : Nat → Int32} {T : Int} (hn : 269 ≤ n) (h : HH S 34 g (fun _ => True)) (hg : GG T g) : AM yX6_property cX6_property 2 (some .int) [] 1 0 0 [.ref 0, .int 11] n (Hp S) (PI (g 10) n S) := by
  intro has
  change WA RX6 cX6_property 2 [] _ _ 0 0 0 [some (.ref 0), some (.int 11)] [] n _
  refine wa_iload_n dX6_property_0 rfl ?_
  refine wa_iconst (x := 0) dX6_property_1 (by decide) ?_
  refine wa_bipush (x := 11) dX6_property_2 (by decide) ?_
  refine c_SV dX6_property_4 (vr_range (by decide) (by decide)) lk_X6_62 rfl ?_
  refine wa_iload_n dX6_property_7 rfl ?_
  refine wa_tableOut 156 dX6_property_8 (by decide) rfl ?_
  refine wa_aload_n dX6_property_156 rfl ?_
  refine g_VR (by assumption) 4 dX6_property_157 fl_X6_26 (by decide) rfl ?_
  refine H_hd h hn 8 dX6_property_160 fl_X6_131 (by decide) (by decide) (fun _ _ _ => rfl) ?_
  exact wa_ireturn dX6_property_163 ⟨Nat.le_refl _, Nat.le_refl _, ⟨_, rfl, rfl⟩, rfl, rfl, rfl⟩
theorem zle_0 {x : Int32} (h0 : 0 ≤ x.toInt) (h : x ≤ 0) : x = 0 := by
  rw [Int32.le_iff_toInt_le, Int32.toInt_zero] at h
  exact Int32.toInt_inj.mp (by rw [Int32.toInt_zero]; omega)
theorem vr_room_0_0 {n i : Nat} {S : SS} {g : Nat → Int32} {T : Int} (hn : 269 ≤ n) (h : HH S 34 g (fun _ => True)) (hg : GG T g) (hT : T ≤ 300000) (hi : i < rn g) : AM yX6_room cX6_room 4 (some .int) [] 1 0 0 [.ref 0, .int (nI i), .int 0] n (Hp S) (PI (of g i 0) n S) := by
  intro has
  change WA RX6 cX6_room 4 [] _ _ 0 0 0 [some (.ref 0), some (.int (nI i)), some (.int 0), none] [] n _
  have hi6 : i < 6 := by have := hg.rn6; omega
  have hk := rk_l hg hi
  have hl := h.lvT hi
  refine wa_aload_n dX6_room_0 rfl ?_
  refine wa_iload_n dX6_room_1 rfl ?_
  refine c_VA dX6_room_2 (vr_roomAt hn h hi6 hk.2) lk_X6_134 rfl (isO_VR _ _ _) rfl (ltS hn) ?_
  refine wa_astore_n dX6_room_5 rfl ?_
  refine wa_iload_n dX6_room_6 rfl ?_
  refine wa_iconst (x := 0) dX6_room_7 (by decide) ?_
  refine wa_bipush (x := 10) dX6_room_8 (by decide) ?_
  refine c_SV dX6_room_10 (vr_range (by decide) (by decide)) lk_X6_62 rfl ?_
  refine wa_iload_n dX6_room_13 rfl ?_
  refine wa_tableIn 68 dX6_room_14 (by decide) (by decide) rfl rfl ?_
  refine wa_aload_n dX6_room_68 rfl ?_
  refine L_n hl hn 0 dX6_room_69 fl_X6_138 (by decide) (fun _ _ _ => rfl) ?_
  exact wa_ireturn dX6_room_72 ⟨Nat.le_refl _, Nat.le_refl _, ⟨_, rfl, rfl⟩, rfl, rfl, rfl⟩
theorem vr_room_0_1 {n i : Nat} {S : SS} {g : Nat → Int32} {T : Int} (hn : 269 ≤ n) (h : HH S 34 g (fun _ => True)) (hg : GG T g) (hT : T ≤ 300000) (hi : i < rn g) : AM yX6_room cX6_room 4 (some .int) [] 1 0 0 [.ref 0, .int (nI i), .int 1] n (Hp S) (PI (of g i 1) n S) := by
  intro has
  change WA RX6 cX6_room 4 [] _ _ 0 0 0 [some (.ref 0), some (.int (nI i)), some (.int 1), none] [] n _
  have hi6 : i < 6 := by have := hg.rn6; omega
  have hk := rk_l hg hi
  have hl := h.lvT hi
  refine wa_aload_n dX6_room_0 rfl ?_
  refine wa_iload_n dX6_room_1 rfl ?_
  refine c_VA dX6_room_2 (vr_roomAt hn h hi6 hk.2) lk_X6_134 rfl (isO_VR _ _ _) rfl (ltS hn) ?_
  refine wa_astore_n dX6_room_5 rfl ?_
  refine wa_iload_n dX6_room_6 rfl ?_
  refine wa_iconst (x := 0) dX6_room_7 (by decide) ?_
  refine wa_bipush (x := 10) dX6_room_8 (by decide) ?_
  refine c_SV dX6_room_10 (vr_range (by decide) (by decide)) lk_X6_62 rfl ?_
  refine wa_iload_n dX6_room_13 rfl ?_
  refine wa_tableIn 73 dX6_room_14 (by decide) (by decide) rfl rfl ?_
  refine wa_aload_n dX6_room_73 rfl ?_
  refine L_n hl hn 1 dX6_room_74 fl_X6_143 (by decide) (fun _ _ _ => rfl) ?_
  exact wa_ireturn dX6_room_77 ⟨Nat.le_refl _, Nat.le_refl _, ⟨_, rfl, rfl⟩, rfl, rfl, rfl⟩
theorem vr_room_0_2 {n i : Nat} {S : SS} {g : Nat → Int32} {T : Int} (hn : 269 ≤ n) (h : HH S 34 g (fun _ => True)) (hg : GG T g) (hT : T ≤ 300000) (hi : i < rn g) : AM yX6_room cX6_room 4 (some .int) [] 1 0 0 [.ref 0, .int (nI i), .int 2] n (Hp S) (PI (of g i 2) n S) := by
  intro has
  change WA RX6 cX6_room 4 [] _ _ 0 0 0 [some (.ref 0), some (.int (nI i)), some (.int 2), none] [] n _
  have hi6 : i < 6 := by have := hg.rn6; omega
  have hk := rk_l hg hi
  have hl := h.lvT hi
  refine wa_aload_n dX6_room_0 rfl ?_
  refine wa_iload_n dX6_room_1 rfl ?_
  refine c_VA dX6_room_2 (vr_roomAt hn h hi6 hk.2) lk_X6_134 rfl (isO_VR _ _ _) rfl (ltS hn) ?_
  refine wa_astore_n dX6_room_5 rfl ?_
  refine wa_iload_n dX6_room_6 rfl ?_
  refine wa_iconst (x := 0) dX6_room_7 (by decide) ?_
  refine wa_bipush (x := 10) dX6_room_8 (by decide) ?_
  refine c_SV dX6_room_10 (vr_range (by decide) (by decide)) lk_X6_62 rfl ?_
  refine wa_iload_n dX6_room_13 rfl ?_
  refine wa_tableIn 78 dX6_room_14 (by decide) (by decide) rfl rfl ?_
  refine wa_aload_n dX6_room_78 rfl ?_
  refine L_n hl hn 2 dX6_room_79 fl_X6_146 (by decide) (fun _ _ _ => rfl) ?_
  exact wa_ireturn dX6_room_82 ⟨Nat.le_refl _, Nat.le_refl _, ⟨_, rfl, rfl⟩, rfl, rfl, rfl⟩
theorem vr_room_0_3 {n i : Nat} {S : SS} {g : Nat → Int32} {T : Int} (hn : 269 ≤ n) (h : HH S 34 g (fun _ => True)) (hg : GG T g) (hT : T ≤ 300000) (hi : i < rn g) : AM yX6_room cX6_room 4 (some .int) [] 1 0 0 [.ref 0, .int (nI i), .int 3] n (Hp S) (PI (of g i 3) n S) := by
  intro has
  change WA RX6 cX6_room 4 [] _ _ 0 0 0 [some (.ref 0), some (.int (nI i)), some (.int 3), none] [] n _
  have hi6 : i < 6 := by have := hg.rn6; omega
  have hk := rk_l hg hi
  have hl := h.lvT hi
  refine wa_aload_n dX6_room_0 rfl ?_
  refine wa_iload_n dX6_room_1 rfl ?_
  refine c_VA dX6_room_2 (vr_roomAt hn h hi6 hk.2) lk_X6_134 rfl (isO_VR _ _ _) rfl (ltS hn) ?_
  refine wa_astore_n dX6_room_5 rfl ?_
  refine wa_iload_n dX6_room_6 rfl ?_
  refine wa_iconst (x := 0) dX6_room_7 (by decide) ?_
  refine wa_bipush (x := 10) dX6_room_8 (by decide) ?_
  refine c_SV dX6_room_10 (vr_range (by decide) (by decide)) lk_X6_62 rfl ?_
  refine wa_iload_n dX6_room_13 rfl ?_
  refine wa_tableIn 83 dX6_room_14 (by decide) (by decide) rfl rfl ?_
  refine wa_aload_n dX6_room_83 rfl ?_
  refine L_n hl hn 3 dX6_room_84 fl_X6_149 (by decide) (fun _ _ _ => rfl) ?_
  exact wa_ireturn dX6_room_87 ⟨Nat.le_refl _, Nat.le_refl _, ⟨_, rfl, rfl⟩, rfl, rfl, rfl⟩
theorem vr_room_0_4 {n i : Nat} {S : SS} {g : Nat → Int32} {T : Int} (hn : 269 ≤ n) (h : HH S 34 g (fun _ => True)) (hg : GG T g) (hT : T ≤ 300000) (hi : i < rn g) : AM yX6_room cX6_room 4 (some .int) [] 1 0 0 [.ref 0, .int (nI i), .int 4] n (Hp S) (PI (of g i 4) n S) := by
  intro has
  change WA RX6 cX6_room 4 [] _ _ 0 0 0 [some (.ref 0), some (.int (nI i)), some (.int 4), none] [] n _
  have hi6 : i < 6 := by have := hg.rn6; omega
  have hk := rk_l hg hi
  have hl := h.lvT hi
  refine wa_aload_n dX6_room_0 rfl ?_
  refine wa_iload_n dX6_room_1 rfl ?_
  refine c_VA dX6_room_2 (vr_roomAt hn h hi6 hk.2) lk_X6_134 rfl (isO_VR _ _ _) rfl (ltS hn) ?_
  refine wa_astore_n dX6_room_5 rfl ?_
  refine wa_iload_n dX6_room_6 rfl ?_
  refine wa_iconst (x := 0) dX6_room_7 (by decide) ?_
  refine wa_bipush (x := 10) dX6_room_8 (by decide) ?_
  refine c_SV dX6_room_10 (vr_range (by decide) (by decide)) lk_X6_62 rfl ?_
  refine wa_iload_n dX6_room_13 rfl ?_
  refine wa_tableIn 88 dX6_room_14 (by decide) (by decide) rfl rfl ?_
  refine wa_aload_n dX6_room_88 rfl ?_
  refine L_n hl hn 4 dX6_room_89 fl_X6_152 (by decide) (fun _ _ _ => rfl) ?_
  exact wa_ireturn dX6_room_92 ⟨Nat.le_refl _, Nat.le_refl _, ⟨_, rfl, rfl⟩, rfl, rfl, rfl⟩
theorem vr_room_0_5 {n i : Nat} {S : SS} {g : Nat → Int32} {T : Int} (hn : 269 ≤ n) (h : HH S 34 g (fun _ => True)) (hg : GG T g) (hT : T ≤ 300000) (hi : i < rn g) : AM yX6_room cX6_room 4 (some .int) [] 1 0 0 [.ref 0, .int (nI i), .int 5] n (Hp S) (PI (of g i 5) n S) := by
  intro has
  change WA RX6 cX6_room 4 [] _ _ 0 0 0 [some (.ref 0), some (.int (nI i)), some (.int 5), none] [] n _
  have hi6 : i < 6 := by have := hg.rn6; omega
  have hk := rk_l hg hi
  have hl := h.lvT hi
  refine wa_aload_n dX6_room_0 rfl ?_
  refine wa_iload_n dX6_room_1 rfl ?_
  refine c_VA dX6_room_2 (vr_roomAt hn h hi6 hk.2) lk_X6_134 rfl (isO_VR _ _ _) rfl (ltS hn) ?_
  refine wa_astore_n dX6_room_5 rfl ?_
  refine wa_iload_n dX6_room_6 rfl ?_
  refine wa_iconst (x := 0) dX6_room_7 (by decide) ?_
  refine wa_bipush (x := 10) dX6_room_8 (by decide) ?_
  refine c_SV dX6_room_10 (vr_range (by decide) (by decide)) lk_X6_62 rfl ?_
  refine wa_iload_n dX6_room_13 rfl ?_
  refine wa_tableIn 93 dX6_room_14 (by decide) (by decide) rfl rfl ?_
  refine wa_aload_n dX6_room_93 rfl ?_
  refine L_n hl hn 5 dX6_room_94 fl_X6_155 (by decide) (fun _ _ _ => rfl) ?_
  refine wa_if_eq 104 dX6_room_97 rfl (fun c97 => ?_) (fun c97 => ?_)
  · refine wa_iconst (x := 0) dX6_room_104 (by decide) ?_
    first
    | exact wa_ireturn dX6_room_105 ⟨Nat.le_refl _, Nat.le_refl _, ⟨_, rfl, rfl⟩, (ri c97.symm), rfl, rfl⟩
    | exact wa_ireturn dX6_room_105 ⟨Nat.le_refl _, Nat.le_refl _, ⟨_, rfl, rfl⟩, (ri ((hg.opn hi).resolve_left c97).symm), rfl, rfl⟩
  · refine wa_iconst (x := 1) dX6_room_100 (by decide) ?_
    refine wa_goto 105 dX6_room_101 rfl ?_
    first
    | exact wa_ireturn dX6_room_105 ⟨Nat.le_refl _, Nat.le_refl _, ⟨_, rfl, rfl⟩, (ri c97.symm), rfl, rfl⟩
    | exact wa_ireturn dX6_room_105 ⟨Nat.le_refl _, Nat.le_refl _, ⟨_, rfl, rfl⟩, (ri ((hg.opn hi).resolve_left c97).symm), rfl, rfl⟩
theorem vr_room_0_6 {n i : Nat} {S : SS} {g : Nat → Int32} {T : Int} (hn : 269 ≤ n) (h : HH S 34 g (fun _ => True)) (hg : GG T g) (hT : T ≤ 300000) (hi : i < rn g) : AM yX6_room cX6_room 4 (some .int) [] 1 0 0 [.ref 0, .int (nI i), .int 6] n (Hp S) (PI (of g i 6) n S) := by
  intro has
  change WA RX6 cX6_room 4 [] _ _ 0 0 0 [some (.ref 0), some (.int (nI i)), some (.int 6), none] [] n _
  have hi6 : i < 6 := by have := hg.rn6; omega
  have hk := rk_l hg hi
  have hl := h.lvT hi
  refine wa_aload_n dX6_room_0 rfl ?_
  refine wa_iload_n dX6_room_1 rfl ?_
  refine c_VA dX6_room_2 (vr_roomAt hn h hi6 hk.2) lk_X6_134 rfl (isO_VR _ _ _) rfl (ltS hn) ?_
  refine wa_astore_n dX6_room_5 rfl ?_
  refine wa_iload_n dX6_room_6 rfl ?_
  refine wa_iconst (x := 0) dX6_room_7 (by decide) ?_
  refine wa_bipush (x := 10) dX6_room_8 (by decide) ?_
  refine c_SV dX6_room_10 (vr_range (by decide) (by decide)) lk_X6_62 rfl ?_
  refine wa_iload_n dX6_room_13 rfl ?_
  refine wa_tableIn 106 dX6_room_14 (by decide) (by decide) rfl rfl ?_
  refine wa_aload_n dX6_room_106 rfl ?_
  refine L_n hl hn 6 dX6_room_107 fl_X6_159 (by decide) (fun _ _ _ => rfl) ?_
  refine wa_if_eq 117 dX6_room_110 rfl (fun c110 => ?_) (fun c110 => ?_)
  · refine wa_iconst (x := 0) dX6_room_117 (by decide) ?_
    first
    | exact wa_ireturn dX6_room_118 ⟨Nat.le_refl _, Nat.le_refl _, ⟨_, rfl, rfl⟩, (ri c110.symm), rfl, rfl⟩
    | exact wa_ireturn dX6_room_118 ⟨Nat.le_refl _, Nat.le_refl _, ⟨_, rfl, rfl⟩, (ri ((hg.pre hi).resolve_left c110).symm), rfl, rfl⟩
  · refine wa_iconst (x := 1) dX6_room_113 (by decide) ?_
    refine wa_goto 118 dX6_room_114 rfl ?_
    first
    | exact wa_ireturn dX6_room_118 ⟨Nat.le_refl _, Nat.le_refl _, ⟨_, rfl, rfl⟩, (ri c110.symm), rfl, rfl⟩
    | exact wa_ireturn dX6_room_118 ⟨Nat.le_refl _, Nat.le_refl _, ⟨_, rfl, rfl⟩, (ri ((hg.pre hi).resolve_left c110).symm), rfl, rfl⟩
theorem vr_room_0_7 {n i : Nat} {S : SS} {g : Nat → Int32} {T : Int} (hn : 269 ≤ n) (h : HH S 34 g (fun _ => True)) (hg : GG T g) (hT : T ≤ 300000) (hi : i < rn g) : AM yX6_room cX6_room 4 (some .int) [] 1 0 0 [.ref 0, .int (nI i), .int 7] n (Hp S) (PI (of g i 7) n S) := by
  intro has
  change WA RX6 cX6_room 4 [] _ _ 0 0 0 [some (.ref 0), some (.int (nI i)), some (.int 7), none] [] n _
  have hi6 : i < 6 := by have := hg.rn6; omega
  have hk := rk_l hg hi
  have hl := h.lvT hi
  refine wa_aload_n dX6_room_0 rfl ?_
  refine wa_iload_n dX6_room_1 rfl ?_
  refine c_VA dX6_room_2 (vr_roomAt hn h hi6 hk.2) lk_X6_134 rfl (isO_VR _ _ _) rfl (ltS hn) ?_
  refine wa_astore_n dX6_room_5 rfl ?_
  refine wa_iload_n dX6_room_6 rfl ?_
  refine wa_iconst (x := 0) dX6_room_7 (by decide) ?_
  refine wa_bipush (x := 10) dX6_room_8 (by decide) ?_
  refine c_SV dX6_room_10 (vr_range (by decide) (by decide)) lk_X6_62 rfl ?_
  refine wa_iload_n dX6_room_13 rfl ?_
  refine wa_tableIn 119 dX6_room_14 (by decide) (by decide) rfl rfl ?_
  refine wa_aload_n dX6_room_119 rfl ?_
  refine L_n hl hn 7 dX6_room_120 fl_X6_162 (by decide) (fun _ _ _ => rfl) ?_
  exact wa_ireturn dX6_room_123 ⟨Nat.le_refl _, Nat.le_refl _, ⟨_, rfl, rfl⟩, rfl, rfl, rfl⟩
theorem vr_room_0_8 {n i : Nat} {S : SS} {g : Nat → Int32} {T : Int} (hn : 269 ≤ n) (h : HH S 34 g (fun _ => True)) (hg : GG T g) (hT : T ≤ 300000) (hi : i < rn g) : AM yX6_room cX6_room 4 (some .int) [] 1 0 0 [.ref 0, .int (nI i), .int 8] n (Hp S) (PI (if of g i 9 = 0 then -1 else of g i 8) n S) := by
  intro has
  change WA RX6 cX6_room 4 [] _ _ 0 0 0 [some (.ref 0), some (.int (nI i)), some (.int 8), none] [] n _
  have hi6 : i < 6 := by have := hg.rn6; omega
  have hk := rk_l hg hi
  have hl := h.lvT hi
  refine wa_aload_n dX6_room_0 rfl ?_
  refine wa_iload_n dX6_room_1 rfl ?_
  refine c_VA dX6_room_2 (vr_roomAt hn h hi6 hk.2) lk_X6_134 rfl (isO_VR _ _ _) rfl (ltS hn) ?_
  refine wa_astore_n dX6_room_5 rfl ?_
  refine wa_iload_n dX6_room_6 rfl ?_
  refine wa_iconst (x := 0) dX6_room_7 (by decide) ?_
  refine wa_bipush (x := 10) dX6_room_8 (by decide) ?_
  refine c_SV dX6_room_10 (vr_range (by decide) (by decide)) lk_X6_62 rfl ?_
  refine wa_iload_n dX6_room_13 rfl ?_
  refine wa_tableIn 124 dX6_room_14 (by decide) (by decide) rfl rfl ?_
  refine wa_aload_n dX6_room_124 rfl ?_
  refine L_n hl hn 9 dX6_room_125 fl_X6_165 (by decide) (fun _ _ _ => rfl) ?_
  refine wa_if_le 138 dX6_room_128 rfl (fun c128 => ?_) (fun c128 => ?_)
  · refine wa_iconst (x := (-1)) dX6_room_138 (by decide) ?_
    have q9 := (hg.2.2.2.2 i hi).2.2.2.2.1.1
    first
    | exact wa_ireturn dX6_room_139 ⟨Nat.le_refl _, Nat.le_refl _, ⟨_, rfl, rfl⟩, (ri (by rw [if_pos (zle_0 q9 c128)])), rfl, rfl⟩
    | exact wa_ireturn dX6_room_139 ⟨Nat.le_refl _, Nat.le_refl _, ⟨_, rfl, rfl⟩, (ri (by rw [if_neg (fun z => c128 (by rw [z]; exact Int32.le_refl _))])), rfl, rfl⟩
  · refine wa_aload_n dX6_room_131 rfl ?_
    refine L_n hl hn 8 dX6_room_132 fl_X6_168 (by decide) (fun _ _ _ => rfl) ?_
    refine wa_goto 139 dX6_room_135 rfl ?_
    have q9 := (hg.2.2.2.2 i hi).2.2.2.2.1.1
    first
    | exact wa_ireturn dX6_room_139 ⟨Nat.le_refl _, Nat.le_refl _, ⟨_, rfl, rfl⟩, (ri (by rw [if_pos (zle_0 q9 c128)])), rfl, rfl⟩
    | exact wa_ireturn dX6_room_139 ⟨Nat.le_refl _, Nat.le_refl _, ⟨_, rfl, rfl⟩, (ri (by rw [if_neg (fun z => c128 (by rw [z]; exact Int32.le_refl _))])), rfl, rfl⟩
theorem vr_room_0_9 {n i : Nat} {S : SS} {g : Nat → Int32} {T : Int} (hn : 269 ≤ n) (h : HH S 34 g (fun _ => True)) (hg : GG T g) (hT : T ≤ 300000) (hi : i < rn g) : AM yX6_room cX6_room 4 (some .int) [] 1 0 0 [.ref 0, .int (nI i), .int 9] n (Hp S) (PI (of g i 9) n S) := by
  intro has
  change WA RX6 cX6_room 4 [] _ _ 0 0 0 [some (.ref 0), some (.int (nI i)), some (.int 9), none] [] n _
  have hi6 : i < 6 := by have := hg.rn6; omega
  have hk := rk_l hg hi
  have hl := h.lvT hi
  refine wa_aload_n dX6_room_0 rfl ?_
  refine wa_iload_n dX6_room_1 rfl ?_
  refine c_VA dX6_room_2 (vr_roomAt hn h hi6 hk.2) lk_X6_134 rfl (isO_VR _ _ _) rfl (ltS hn) ?_
  refine wa_astore_n dX6_room_5 rfl ?_
  refine wa_iload_n dX6_room_6 rfl ?_
  refine wa_iconst (x := 0) dX6_room_7 (by decide) ?_
  refine wa_bipush (x := 10) dX6_room_8 (by decide) ?_
  refine c_SV dX6_room_10 (vr_range (by decide) (by decide)) lk_X6_62 rfl ?_
  refine wa_iload_n dX6_room_13 rfl ?_
  refine wa_tableIn 140 dX6_room_14 (by decide) (by decide) rfl rfl ?_
  refine wa_aload_n dX6_room_140 rfl ?_
  refine L_n hl hn 9 dX6_room_141 fl_X6_165 (by decide) (fun _ _ _ => rfl) ?_
  exact wa_ireturn dX6_room_144 ⟨Nat.le_refl _, Nat.le_refl _, ⟨_, rfl, rfl⟩, rfl, rfl, rfl⟩
theorem vr_room_0_10 {n i : Nat} {S : SS} {g : Nat → Int32} {T : Int} (hn : 269 ≤ n) (h : HH S 34 g (fun _ => True)) (hg : GG T g) (hT : T ≤ 300000) (hi : i < rn g) : AM yX6_room cX6_room 4 (some .int) [] 1 0 0 [.ref 0, .int (nI i), .int 10] n (Hp S) (PI (of g i 10) n S) := by
  intro has
  change WA RX6 cX6_room 4 [] _ _ 0 0 0 [some (.ref 0), some (.int (nI i)), some (.int 10), none] [] n _
  have hi6 : i < 6 := by have := hg.rn6; omega
  have hk := rk_l hg hi
  have hl := h.lvT hi
  refine wa_aload_n dX6_room_0 rfl ?_
  refine wa_iload_n dX6_room_1 rfl ?_
  refine c_VA dX6_room_2 (vr_roomAt hn h hi6 hk.2) lk_X6_134 rfl (isO_VR _ _ _) rfl (ltS hn) ?_
  refine wa_astore_n dX6_room_5 rfl ?_
  refine wa_iload_n dX6_room_6 rfl ?_
  refine wa_iconst (x := 0) dX6_room_7 (by decide) ?_
  refine wa_bipush (x := 10) dX6_room_8 (by decide) ?_
  refine c_SV dX6_room_10 (vr_range (by decide) (by decide)) lk_X6_62 rfl ?_
  refine wa_iload_n dX6_room_13 rfl ?_
  refine wa_tableOut 145 dX6_room_14 (by decide) rfl ?_
  refine wa_aload_n dX6_room_145 rfl ?_
  refine L_n hl hn 10 dX6_room_146 fl_X6_171 (by decide) (fun _ _ _ => rfl) ?_
  exact wa_ireturn dX6_room_149 ⟨Nat.le_refl _, Nat.le_refl _, ⟨_, rfl, rfl⟩, rfl, rfl, rfl⟩
theorem vr_exerciseIn_0 {n i : Nat} {S : SS} {g : Nat → Int32} {T : Int} (hn : 269 ≤ n) (h : HH S 34 g (fun _ => True)) (hg : GG T g) (hT : T ≤ 300000) (hi : i < rn g) : AM yX6_exerciseIn cX6_exerciseIn 2 (some .int) [] 1 0 0 [.ref 0, .int (nI i)] n (Hp S) (PI (i_fmod (g 10 + nI i - g 1 - 1) 336 + 1) n S) := by
  intro has
  change WA RX6 cX6_exerciseIn 2 [] _ _ 0 0 0 [some (.ref 0), some (.int (nI i))] [] n _
  have hi6 : i < 6 := by have := hg.rn6; omega
  have hk := rk_l hg hi
  have hl := h.lvT hi
  refine wa_aload_n dX6_exerciseIn_0 rfl ?_
  refine wa_iload_n dX6_exerciseIn_1 rfl ?_
  refine c_VA dX6_exerciseIn_2 (vr_roomAt hn h hi6 hk.2) lk_X6_134 rfl (isO_VR _ _ _) rfl (ltS hn) ?_
  refine wa_pop dX6_exerciseIn_5 rfl ?_
  refine wa_aload_n dX6_exerciseIn_6 rfl ?_
  refine g_VR (by assumption) 4 dX6_exerciseIn_7 fl_X6_26 (by decide) rfl ?_
  refine H_hd h hn 8 dX6_exerciseIn_10 fl_X6_131 (by decide) (by decide) (fun _ _ _ => rfl) ?_
  refine wa_iload_n dX6_exerciseIn_13 rfl ?_
  refine wa_iadd dX6_exerciseIn_14 ?_
  refine wa_aload_n dX6_exerciseIn_15 rfl ?_
  refine g_VR (by assumption) 4 dX6_exerciseIn_16 fl_X6_26 (by decide) rfl ?_
  refine H_hd h hn 0 dX6_exerciseIn_19 fl_X6_100 (by decide) (by decide) (fun _ _ _ => rfl) ?_
  refine wa_isub dX6_exerciseIn_22 ?_
  refine wa_iconst (x := 1) dX6_exerciseIn_23 (by decide) ?_
  refine wa_isub dX6_exerciseIn_24 ?_
  refine wa_sipush (x := 336) dX6_exerciseIn_25 (by decide) ?_
  refine c_SI dX6_exerciseIn_28 (am_fmod2 _ 336 (by decide)) lk_X6_238 rfl ?_
  refine wa_iconst (x := 1) dX6_exerciseIn_31 (by decide) ?_
  refine wa_iadd dX6_exerciseIn_32 ?_
  exact wa_ireturn dX6_exerciseIn_33 ⟨Nat.le_refl _, Nat.le_refl _, ⟨_, rfl, rfl⟩, rfl, rfl, rfl⟩
theorem vr_errorCode {n : Nat} {S : SS} (hn : 269 ≤ n) : AM yX6_errorCode cX6_errorCode 1 (some .int) [] 0 0 0 [.ref 0] n (Hp S) (PI (S.1 0 1) n S) := by
  intro has
  change WA RX6 cX6_errorCode 1 [] _ _ 0 0 0 [some (.ref 0)] [] n _
  refine wa_aload_n dX6_errorCode_0 rfl ?_
  refine g_VR (by assumption) 1 dX6_errorCode_1 fl_X6_73 (by decide) rfl ?_
  exact wa_ireturn dX6_errorCode_4 ⟨Nat.le_refl _, Nat.le_refl _, ⟨_, rfl, rfl⟩, rfl, rfl, rfl⟩
