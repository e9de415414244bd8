/-! ValveRoom: answers that change nothing. Written by program (wip/whole/gen/m785.py) but for the heads. -/
theorem vr_target_1 {n : Nat} {S : SS} {g : Nat → Int32} {T : Int} (hn : 279 ≤ n) (h : HH S 34 g (fun _ => True)) (hg : GG T g) (r : Int32) (h1 : ¬ ((0 ≤ r ∧ r < g 0))) : AM yX6_target cX6_target 2 (some .int) [] 2 1 6 [.ref 0, .int r] n (Hp S) (PX ab_xI n S) := by
  intro has
  change WA RX6 cX6_target 2 [] _ _ 0 0 0 [some (.ref 0), some (.int r)] [] n _
  refine wa_aload_n dX6_target_0 rfl ?_
  refine g_VR (by assumption) 4 dX6_target_1 fl_X6_26 (by decide) rfl ?_
  refine wa_aload_n dX6_target_4 rfl ?_
  refine wa_iload_n dX6_target_5 rfl ?_
  exact c_VX dX6_target_6 (vr_roomAtX hn h h1) lk_X6_134 rfl (isO_VR _ _ _) rfl (ltS hn) (wt_out ⟨Nat.le_refl _, Nat.le_refl _, trivial, rfl, rfl, rfl⟩ (by decide))
theorem vr_target_0 {n i : Nat} {S : SS} {g : Nat → Int32} {T : Int} (hn : 279 ≤ n) (h : HH S 34 g (fun _ => True)) (hg : GG T g) (hT : T ≤ 300000) (hi : i < rn g) : AM yX6_target cX6_target 2 (some .int) [] 2 0 0 [.ref 0, .int (nI i)] n (Hp S) (PI (tgt g i) n S) := by
  intro has
  change WA RX6 cX6_target 2 [] _ _ 0 0 0 [some (.ref 0), some (.int (nI i))] [] n _
  have hi6 : i < 6 := by have := hg.rn6; omega
  have hk := rk_l hg hi
  have hl := h.lvT hi
  refine wa_aload_n dX6_target_0 rfl ?_
  refine g_VR (by assumption) 4 dX6_target_1 fl_X6_26 (by decide) rfl ?_
  refine wa_aload_n dX6_target_4 rfl ?_
  refine wa_iload_n dX6_target_5 rfl ?_
  refine c_VA dX6_target_6 (vr_roomAt hn h hi6 hk.2) lk_X6_134 rfl (isO_VR _ _ _) rfl (ltS hn) ?_
  refine c_VI dX6_target_9 (hh_targetOf hn hl hg.t0 (hg.pre hi)) lk_X6_178 rfl (isH.HO hl.H _ _ _) rfl (lt_HO hl.H hn) ?_
  exact wa_ireturn dX6_target_12 ⟨Nat.le_refl _, Nat.le_refl _, ⟨_, rfl, rfl⟩, rfl, rfl, rfl⟩
theorem vr_wanted_1 {n : Nat} {S : SS} {g : Nat → Int32} {T : Int} (hn : 279 ≤ n) (h : HH S 34 g (fun _ => True)) (hg : GG T g) (r : Int32) (h1 : ¬ ((0 ≤ r ∧ r < g 0))) : AM yX6_wanted cX6_wanted 2 (some .int) [] 3 1 6 [.ref 0, .int r] n (Hp S) (PX ab_xI n S) := by
  intro has
  change WA RX6 cX6_wanted 2 [] _ _ 0 0 0 [some (.ref 0), some (.int r)] [] n _
  refine wa_aload_n dX6_wanted_0 rfl ?_
  refine g_VR (by assumption) 4 dX6_wanted_1 fl_X6_26 (by decide) rfl ?_
  refine wa_aload_n dX6_wanted_4 rfl ?_
  refine wa_iload_n dX6_wanted_5 rfl ?_
  exact c_VX dX6_wanted_6 (vr_roomAtX hn h h1) lk_X6_134 rfl (isO_VR _ _ _) rfl (ltS hn) (wt_out ⟨Nat.le_refl _, Nat.le_refl _, trivial, rfl, rfl, rfl⟩ (by decide))
theorem vr_wanted_0 {n i : Nat} {S : SS} {g : Nat → Int32} {T : Int} (hn : 279 ≤ n) (h : HH S 34 g (fun _ => True)) (hg : GG T g) (hT : T ≤ 300000) (hi : i < rn g) : AM yX6_wanted cX6_wanted 2 (some .int) [] 3 0 0 [.ref 0, .int (nI i)] n (Hp S) (PI (wnt g i) n S) := by
  intro has
  change WA RX6 cX6_wanted 2 [] _ _ 0 0 0 [some (.ref 0), some (.int (nI i))] [] n _
  have hi6 : i < 6 := by have := hg.rn6; omega
  have hk := rk_l hg hi
  have hl := h.lvT hi
  refine wa_aload_n dX6_wanted_0 rfl ?_
  refine g_VR (by assumption) 4 dX6_wanted_1 fl_X6_26 (by decide) rfl ?_
  refine wa_aload_n dX6_wanted_4 rfl ?_
  refine wa_iload_n dX6_wanted_5 rfl ?_
  refine c_VA dX6_wanted_6 (vr_roomAt hn h hi6 hk.2) lk_X6_134 rfl (isO_VR _ _ _) rfl (ltS hn) ?_
  refine c_VI dX6_wanted_9 (hh_positionWanted hn hl hg.t0 (hg.RG hi) (hg.OV hi hT)) lk_X6_197 rfl (isH.HO hl.H _ _ _) rfl (lt_HO hl.H hn) ?_
  exact wa_ireturn dX6_wanted_12 ⟨Nat.le_refl _, Nat.le_refl _, ⟨_, rfl, rfl⟩, rfl, rfl, rfl⟩
theorem vr_reckoned_1 {n : Nat} {S : SS} {g : Nat → Int32} {T : Int} (hn : 279 ≤ n) (h : HH S 34 g (fun _ => True)) (hg : GG T g) (r : Int32) (h1 : ¬ ((0 ≤ r ∧ r < g 0))) : AM yX6_reckoned cX6_reckoned 2 (some .int) [] 1 1 6 [.ref 0, .int r] n (Hp S) (PX ab_xI n S) := by
  intro has
  change WA RX6 cX6_reckoned 2 [] _ _ 0 0 0 [some (.ref 0), some (.int r)] [] n _
  refine wa_aload_n dX6_reckoned_0 rfl ?_
  refine wa_iload_n dX6_reckoned_1 rfl ?_
  exact c_VX dX6_reckoned_2 (vr_roomAtX hn h h1) lk_X6_134 rfl (isO_VR _ _ _) rfl (ltS hn) (wt_out ⟨Nat.le_refl _, Nat.le_refl _, trivial, rfl, rfl, rfl⟩ (by decide))
theorem vr_reckoned_0 {n i : Nat} {S : SS} {g : Nat → Int32} {T : Int} (hn : 279 ≤ n) (h : HH S 34 g (fun _ => True)) (hg : GG T g) (hT : T ≤ 300000) (hi : i < rn g) : AM yX6_reckoned cX6_reckoned 2 (some .int) [] 1 0 0 [.ref 0, .int (nI i)] n (Hp S) (PI (of g i 2) n S) := by
  intro has
  change WA RX6 cX6_reckoned 2 [] _ _ 0 0 0 [some (.ref 0), some (.int (nI i))] [] n _
  have hi6 : i < 6 := by have := hg.rn6; omega
  have hk := rk_l hg hi
  have hl := h.lvT hi
  refine wa_aload_n dX6_reckoned_0 rfl ?_
  refine wa_iload_n dX6_reckoned_1 rfl ?_
  refine c_VA dX6_reckoned_2 (vr_roomAt hn h hi6 hk.2) lk_X6_134 rfl (isO_VR _ _ _) rfl (ltS hn) ?_
  refine L_n hl hn 2 dX6_reckoned_5 fl_X6_146 (by decide) (fun _ _ _ => rfl) ?_
  exact wa_ireturn dX6_reckoned_8 ⟨Nat.le_refl _, Nat.le_refl _, ⟨_, rfl, rfl⟩, rfl, rfl, rfl⟩
theorem vr_count_1 {n : Nat} {S : SS} {g : Nat → Int32} {T : Int} (hn : 279 ≤ n) (h : HH S 34 g (fun _ => True)) (hg : GG T g) (r what : Int32) (h1 : ¬ ((0 ≤ r ∧ r < g 0))) : AM yX6_count cX6_count 4 (some .int) [] 1 1 6 [.ref 0, .int r, .int what] n (Hp S) (PX ab_xI n S) := by
  intro has
  change WA RX6 cX6_count 4 [] _ _ 0 0 0 [some (.ref 0), some (.int r), some (.int what), none] [] n _
  refine wa_aload_n dX6_count_0 rfl ?_
  refine wa_iload_n dX6_count_1 rfl ?_
  exact c_VX dX6_count_2 (vr_roomAtX hn h h1) lk_X6_134 rfl (isO_VR _ _ _) rfl (ltS hn) (wt_out ⟨Nat.le_refl _, Nat.le_refl _, trivial, rfl, rfl, rfl⟩ (by decide))
theorem vr_count_2 {n : Nat} {S : SS} {g : Nat → Int32} {T : Int} (hn : 279 ≤ n) (h : HH S 34 g (fun _ => True)) (hg : GG T g) (r what : Int32) (h1 : ((0 ≤ r ∧ r < g 0))) (h2 : ¬ (inr what 0 5)) : AM yX6_count cX6_count 4 (some .int) [] 1 1 6 [.ref 0, .int r, .int what] n (Hp S) (PX ab_xA n S) := by
  intro has
  change WA RX6 cX6_count 4 [] _ _ 0 0 0 [some (.ref 0), some (.int r), some (.int what), none] [] n _
  refine wa_aload_n dX6_count_0 rfl ?_
  refine wa_iload_n dX6_count_1 rfl ?_
  refine c_VA dX6_count_2 (vr_roomAtR hn h h1) lk_X6_134 rfl (isO_VR _ _ _) rfl (ltS hn) ?_
  refine wa_astore_n dX6_count_5 rfl ?_
  refine wa_iload_n dX6_count_6 rfl ?_
  refine wa_iconst (x := 0) dX6_count_7 (by decide) ?_
  refine wa_iconst (x := 5) dX6_count_8 (by decide) ?_
  exact c_SX dX6_count_9 (vr_rangeX h2) lk_X6_62 rfl (wt_out ⟨Nat.le_refl _, Nat.le_refl _, trivial, rfl, rfl, rfl⟩ (by decide))
theorem vr_count_0 {n i : Nat} {S : SS} {g : Nat → Int32} {T : Int} (hn : 279 ≤ n) (h : HH S 34 g (fun _ => True)) (hg : GG T g) (hT : T ≤ 300000) (hi : i < rn g) {w : Nat} (hw : w < 6) (h2 : inr (nI w) 0 5) : AM yX6_count cX6_count 4 (some .int) [] 1 0 0 [.ref 0, .int (nI i), .int (nI w)] n (Hp S) (PI (of g i (12 + w)) n S) := by
  intro has
  change WA RX6 cX6_count 4 [] _ _ 0 0 0 [some (.ref 0), some (.int (nI i)), some (.int (nI w)), none] [] n _
  have hi6 : i < 6 := by have := hg.rn6; omega
  have hk := rk_l hg hi
  have hl := h.lvT hi
  refine wa_aload_n dX6_count_0 rfl ?_
  refine wa_iload_n dX6_count_1 rfl ?_
  refine c_VA dX6_count_2 (vr_roomAt hn h hi6 hk.2) lk_X6_134 rfl (isO_VR _ _ _) rfl (ltS hn) ?_
  refine wa_astore_n dX6_count_5 rfl ?_
  refine wa_iload_n dX6_count_6 rfl ?_
  refine wa_iconst (x := 0) dX6_count_7 (by decide) ?_
  refine wa_iconst (x := 5) dX6_count_8 (by decide) ?_
  refine c_SV dX6_count_9 (vr_range h2.1 h2.2) lk_X6_62 rfl ?_
  refine wa_aload_n dX6_count_12 rfl ?_
  refine g_RO hl.R hn 12 dX6_count_13 fl_X6_174 (by decide) rfl ?_
  refine wa_iload_n dX6_count_16 rfl ?_
  refine L_cld hl hn w (ix_nI (by omega)) hw dX6_count_17 ?_
  exact wa_ireturn dX6_count_18 ⟨Nat.le_refl _, Nat.le_refl _, ⟨_, rfl, rfl⟩, rfl, rfl, rfl⟩
theorem vr_programmed_1 {n : Nat} {S : SS} {g : Nat → Int32} {T : Int} (hn : 279 ≤ n) (h : HH S 34 g (fun _ => True)) (hg : GG T g) (r what : Int32) (h1 : ¬ ((0 ≤ r ∧ r < g 0))) : AM yX6_programmed cX6_programmed 4 (some .int) [] 1 1 6 [.ref 0, .int r, .int what] n (Hp S) (PX ab_xI n S) := by
  intro has
  change WA RX6 cX6_programmed 4 [] _ _ 0 0 0 [some (.ref 0), some (.int r), some (.int what), none] [] n _
  refine wa_aload_n dX6_programmed_0 rfl ?_
  refine wa_iload_n dX6_programmed_1 rfl ?_
  exact c_VX dX6_programmed_2 (vr_roomAtX hn h h1) lk_X6_134 rfl (isO_VR _ _ _) rfl (ltS hn) (wt_out ⟨Nat.le_refl _, Nat.le_refl _, trivial, rfl, rfl, rfl⟩ (by decide))
theorem vr_programmed_2 {n : Nat} {S : SS} {g : Nat → Int32} {T : Int} (hn : 279 ≤ n) (h : HH S 34 g (fun _ => True)) (hg : GG T g) (r what : Int32) (h1 : ((0 ≤ r ∧ r < g 0))) (h2 : ¬ (inr what 0 47)) : AM yX6_programmed cX6_programmed 4 (some .int) [] 1 1 6 [.ref 0, .int r, .int what] n (Hp S) (PX ab_xA n S) := by
  intro has
  change WA RX6 cX6_programmed 4 [] _ _ 0 0 0 [some (.ref 0), some (.int r), some (.int what), none] [] n _
  refine wa_aload_n dX6_programmed_0 rfl ?_
  refine wa_iload_n dX6_programmed_1 rfl ?_
  refine c_VA dX6_programmed_2 (vr_roomAtR hn h h1) lk_X6_134 rfl (isO_VR _ _ _) rfl (ltS hn) ?_
  refine wa_astore_n dX6_programmed_5 rfl ?_
  refine wa_iload_n dX6_programmed_6 rfl ?_
  refine wa_iconst (x := 0) dX6_programmed_7 (by decide) ?_
  refine wa_bipush (x := 47) dX6_programmed_8 (by decide) ?_
  exact c_SX dX6_programmed_10 (vr_rangeX h2) lk_X6_62 rfl (wt_out ⟨Nat.le_refl _, Nat.le_refl _, trivial, rfl, rfl, rfl⟩ (by decide))
theorem vr_programmed_0 {n i : Nat} {S : SS} {g : Nat → Int32} {T : Int} (hn : 279 ≤ n) (h : HH S 34 g (fun _ => True)) (hg : GG T g) (hT : T ≤ 300000) (hi : i < rn g) {w : Nat} (hw : w < 48) (h2 : inr (nI w) 0 47) : AM yX6_programmed cX6_programmed 4 (some .int) [] 1 0 0 [.ref 0, .int (nI i), .int (nI w)] n (Hp S) (PI (told (pg g i) w) n S) := by
  intro has
  change WA RX6 cX6_programmed 4 [] _ _ 0 0 0 [some (.ref 0), some (.int (nI i)), some (.int (nI w)), none] [] n _
  have hi6 : i < 6 := by have := hg.rn6; omega
  have hk := rk_l hg hi
  have hl := h.lvT hi
  refine wa_aload_n dX6_programmed_0 rfl ?_
  refine wa_iload_n dX6_programmed_1 rfl ?_
  refine c_VA dX6_programmed_2 (vr_roomAt hn h hi6 hk.2) lk_X6_134 rfl (isO_VR _ _ _) rfl (ltS hn) ?_
  refine wa_astore_n dX6_programmed_5 rfl ?_
  refine wa_iload_n dX6_programmed_6 rfl ?_
  refine wa_iconst (x := 0) dX6_programmed_7 (by decide) ?_
  refine wa_bipush (x := 47) dX6_programmed_8 (by decide) ?_
  refine c_SV dX6_programmed_10 (vr_range h2.1 h2.2) lk_X6_62 rfl ?_
  refine wa_aload_n dX6_programmed_13 rfl ?_
  refine wa_iload_n dX6_programmed_14 rfl ?_
  refine c_VI dX6_programmed_15 (am_programmedAt hl.R hn hl.rp hw) lk_X6_182 rfl (isR.RO hl.R _ _ _) rfl (lt_RO hl.R hn) ?_
  exact wa_ireturn dX6_programmed_18 ⟨Nat.le_refl _, Nat.le_refl _, ⟨_, rfl, rfl⟩, rfl, rfl, rfl⟩
theorem vr_entry_1 {n : Nat} {S : SS} {g : Nat → Int32} {T : Int} (hn : 279 ≤ n) (h : HH S 34 g (fun _ => True)) (hg : GG T g) (r k : Int32) (h1 : ¬ ((0 ≤ r ∧ r < g 0))) : AM yX6_entry cX6_entry 4 (some .int) [] 1 1 6 [.ref 0, .int r, .int k] n (Hp S) (PX ab_xI n S) := by
  intro has
  change WA RX6 cX6_entry 4 [] _ _ 0 0 0 [some (.ref 0), some (.int r), some (.int k), none] [] n _
  refine wa_aload_n dX6_entry_0 rfl ?_
  refine wa_iload_n dX6_entry_1 rfl ?_
  exact c_VX dX6_entry_2 (vr_roomAtX hn h h1) lk_X6_134 rfl (isO_VR _ _ _) rfl (ltS hn) (wt_out ⟨Nat.le_refl _, Nat.le_refl _, trivial, rfl, rfl, rfl⟩ (by decide))
theorem lt_le1 {k : Int32} {c : Nat} (hc : c < 2 ^ 31) (h : k < nI c) : k ≤ nI c - 1 := by
  have k1 : (1 : Int32).toInt = 1 := by decide
  have e := nI_toInt hc
  rw [Int32.lt_iff_toInt_lt, e] at h
  rw [Int32.le_iff_toInt_le, i_sub (by rw [e, k1]; omega) (by rw [e, k1]; omega), e, k1]
  omega
theorem vr_entry_2 {n i : Nat} {S : SS} {g : Nat → Int32} {T : Int} (hn : 279 ≤ n) (h : HH S 34 g (fun _ => True)) (hg : GG T g) (hT : T ≤ 300000) (hi : i < rn g) (k : Int32) (h2 : ¬ inr k 0 (nI (cnt (pg g i) 48) - 1)) : AM yX6_entry cX6_entry 4 (some .int) [] 1 1 6 [.ref 0, .int (nI i), .int k] n (Hp S) (PX ab_xN n S) := by
  intro has
  change WA RX6 cX6_entry 4 [] _ _ 0 0 0 [some (.ref 0), some (.int (nI i)), some (.int k), none] [] n _
  have hi6 : i < 6 := by have := hg.rn6; omega
  have hk := rk_l hg hi
  have hl := h.lvT hi
  have h48 := cnt_le (pg g i) 48
  refine wa_aload_n dX6_entry_0 rfl ?_
  refine wa_iload_n dX6_entry_1 rfl ?_
  refine c_VA dX6_entry_2 (vr_roomAt hn h hi6 hk.2) lk_X6_134 rfl (isO_VR _ _ _) rfl (ltS hn) ?_
  refine wa_astore_n dX6_entry_5 rfl ?_
  refine wa_iload_n dX6_entry_6 rfl ?_
  refine wa_if_lt 18 dX6_entry_7 rfl (fun c7 => ?_) (fun c7 => ?_)
  · exact wa_throwX nse_0 nse_1 nse_2 nse_5 xk_NSE (j := 11) rfl dX6_entry_18 dX6_entry_21 dX6_entry_22 dX6_entry_24 dX6_entry_27 (by decide) (by unfold ab_rm; refine ⟨?_, ?_, ?_, ?_⟩ <;> simp) ⟨Nat.le_refl _, Nat.le_refl _, trivial, rfl, rfl, rfl⟩
  · refine wa_iload_n dX6_entry_10 rfl ?_
    refine wa_aload_n dX6_entry_11 rfl ?_
    refine g_RO hl.R hn 14 dX6_entry_12 fl_X6_186 (by decide) rfl ?_
    rw [hl.rp.2.1]
    refine wa_icmp_lt 28 dX6_entry_15 rfl (fun c15 => absurd ⟨Int32.not_lt.mp c7, lt_le1 (by omega) c15⟩ h2) (fun c15 => ?_)
    exact wa_throwX nse_0 nse_1 nse_2 nse_5 xk_NSE (j := 11) rfl dX6_entry_18 dX6_entry_21 dX6_entry_22 dX6_entry_24 dX6_entry_27 (by decide) (by unfold ab_rm; refine ⟨?_, ?_, ?_, ?_⟩ <;> simp) ⟨Nat.le_refl _, Nat.le_refl _, trivial, rfl, rfl, rfl⟩
theorem vr_entry_0 {n i : Nat} {S : SS} {g : Nat → Int32} {T : Int} (hn : 279 ≤ n) (h : HH S 34 g (fun _ => True)) (hg : GG T g) (hT : T ≤ 300000) (hi : i < rn g) {s : Nat} (hs : s < 48) (h0 : ¬ pg g i s = 0) : AM yX6_entry cX6_entry 4 (some .int) [] 1 0 0 [.ref 0, .int (nI i), .int (nI (cnt (pg g i) s))] n (Hp S) (PI (nI (1000 * s) + pg g i s) n S) := by
  intro has
  change WA RX6 cX6_entry 4 [] _ _ 0 0 0 [some (.ref 0), some (.int (nI i)), some (.int (nI (cnt (pg g i) s))), none] [] n _
  have hi6 : i < 6 := by have := hg.rn6; omega
  have hk := rk_l hg hi
  have hl := h.lvT hi
  have h48 := cnt_le (pg g i) 48
  have hlt := cnt_lt (pg g i) hs h0
  refine wa_aload_n dX6_entry_0 rfl ?_
  refine wa_iload_n dX6_entry_1 rfl ?_
  refine c_VA dX6_entry_2 (vr_roomAt hn h hi6 hk.2) lk_X6_134 rfl (isO_VR _ _ _) rfl (ltS hn) ?_
  refine wa_astore_n dX6_entry_5 rfl ?_
  refine wa_iload_n dX6_entry_6 rfl ?_
  refine wa_if_lt 18 dX6_entry_7 rfl (fun c7 => absurd c7 (Int32.not_lt.mpr (nI_0le (by omega)))) (fun c7 => ?_)
  refine wa_iload_n dX6_entry_10 rfl ?_
  refine wa_aload_n dX6_entry_11 rfl ?_
  refine g_RO hl.R hn 14 dX6_entry_12 fl_X6_186 (by decide) rfl ?_
  rw [hl.rp.2.1]
  refine wa_icmp_lt 28 dX6_entry_15 rfl (fun c15 => ?_) (fun c15 => absurd (nI_lt hlt (by omega)) c15)
  refine wa_aload_n dX6_entry_28 rfl ?_
  refine g_RO hl.R hn 13 dX6_entry_29 fl_X6_194 (by decide) rfl ?_
  refine wa_iload_n dX6_entry_32 rfl ?_
  refine s_iald (j := cnt (pg g i) s) (isR.prg hl.R) dX6_entry_33 (lt_R2 hl.R hn) (ix_nI (by omega)) (by omega) ?_
  rw [hl.rp.2.2 s hs h0]
  exact wa_ireturn dX6_entry_34 ⟨Nat.le_refl _, Nat.le_refl _, ⟨_, rfl, rfl⟩, rfl, rfl, rfl⟩
theorem vr_why_1 {n : Nat} {S : SS} {g : Nat → Int32} {T : Int} (hn : 279 ≤ n) (h : HH S 34 g (fun _ => True)) (hg : GG T g) (r : Int32) (h1 : ¬ ((0 ≤ r ∧ r < g 0))) : AM yX6_why cX6_why 4 (some .int) [] 3 1 6 [.ref 0, .int r] n (Hp S) (PX ab_xI n S) := by
  intro has
  change WA RX6 cX6_why 4 [] _ _ 0 0 0 [some (.ref 0), some (.int r), none, none] [] n _
  refine wa_aload_n dX6_why_0 rfl ?_
  refine wa_iload_n dX6_why_1 rfl ?_
  exact c_VX dX6_why_2 (vr_roomAtX hn h h1) lk_X6_134 rfl (isO_VR _ _ _) rfl (ltS hn) (wt_out ⟨Nat.le_refl _, Nat.le_refl _, trivial, rfl, rfl, rfl⟩ (by decide))
theorem mis_pos {T : Int} {g : Nat → Int32} {i : Nat} (hg : GG T g) (hT : T ≤ 300000) (hi : i < rn g) : mis g i ≤ 0 ↔ tgt g i ≤ of g i 0 := by
  have e := (mis_b (hg.2.2.2.2 i hi).2 hg.2.1 (hg.PT i) hg.T0 hT).1
  rw [Int32.le_iff_toInt_le, Int32.le_iff_toInt_le, e, Int32.toInt_zero]
  omega
theorem vr_why_0 {n i : Nat} {S : SS} {g : Nat → Int32} {T : Int} (hn : 279 ≤ n) (h : HH S 34 g (fun _ => True)) (hg : GG T g) (hT : T ≤ 300000) (hi : i < rn g) : AM yX6_why cX6_why 4 (some .int) [] 3 0 0 [.ref 0, .int (nI i)] n (Hp S) (PI (if ¬ of g i 1 = wnt g i then (if 0 < of g i 2 then 0 else 1) else if 0 < of g i 7 then 2 else if i_abs (mis g i) ≤ g 7 then 3 else if of g i 0 < tgt g i then 5 else 4) n S) := by
  intro has
  change WA RX6 cX6_why 4 [] _ _ 0 0 0 [some (.ref 0), some (.int (nI i)), none, none] [] n _
  have hi6 : i < 6 := by have := hg.rn6; omega
  have hk := rk_l hg hi
  have hl := h.lvT hi
  refine wa_aload_n dX6_why_0 rfl ?_
  refine wa_iload_n dX6_why_1 rfl ?_
  refine c_VA dX6_why_2 (vr_roomAt hn h hi6 hk.2) lk_X6_134 rfl (isO_VR _ _ _) rfl (ltS hn) ?_
  refine wa_astore_n dX6_why_5 rfl ?_
  refine wa_aload_n dX6_why_6 rfl ?_
  refine L_n hl hn 1 dX6_why_7 fl_X6_143 (by decide) (fun _ _ _ => rfl) ?_
  refine wa_aload_n dX6_why_10 rfl ?_
  refine g_VR (by assumption) 4 dX6_why_11 fl_X6_26 (by decide) rfl ?_
  refine wa_aload_n dX6_why_14 rfl ?_
  refine c_VI dX6_why_15 (hh_positionWanted hn hl hg.t0 (hg.RG hi) (hg.OV hi hT)) lk_X6_197 rfl (isH.HO hl.H _ _ _) rfl (lt_HO hl.H hn) ?_
  refine wa_icmp_eq 34 dX6_why_18 rfl (fun c18 => ?_) (fun c18 => ?_)
  · refine wa_aload_n dX6_why_34 rfl ?_
    refine L_n hl hn 7 dX6_why_35 fl_X6_162 (by decide) (fun _ _ _ => rfl) ?_
    refine wa_if_le 43 dX6_why_38 rfl (fun c38 => ?_) (fun c38 => ?_)
    · refine wa_aload_n dX6_why_43 rfl ?_
      refine g_VR (by assumption) 4 dX6_why_44 fl_X6_26 (by decide) rfl ?_
      refine wa_aload_n dX6_why_47 rfl ?_
      refine c_VI dX6_why_48 (hh_missingTo hn hl hg.t0 (hg.pre hi)) lk_X6_200 rfl (isH.HO hl.H _ _ _) rfl (lt_HO hl.H hn) ?_
      refine wa_istore_n dX6_why_51 rfl ?_
      refine wa_iload_n dX6_why_52 rfl ?_
      refine c_SI dX6_why_53 (am_abs _) lk_X6_203 rfl ?_
      refine wa_aload_n dX6_why_56 rfl ?_
      refine g_VR (by assumption) 4 dX6_why_57 fl_X6_26 (by decide) rfl ?_
      refine H_hd h hn 5 dX6_why_60 fl_X6_122 (by decide) (by decide) (fun _ _ _ => rfl) ?_
      rw [show g (hm 5) = g 7 from rfl]
      refine wa_icmp_gt 68 dX6_why_63 rfl (fun c63 => ?_) (fun c63 => ?_)
      · refine wa_iload_n dX6_why_68 rfl ?_
        refine wa_if_le 76 dX6_why_69 rfl (fun c69 => ?_) (fun c69 => ?_)
        · refine wa_iconst (x := 4) dX6_why_76 (by decide) ?_
          first
          | exact wa_ireturn dX6_why_77 ⟨Nat.le_refl _, Nat.le_refl _, ⟨_, rfl, rfl⟩, (ri (by rw [if_pos c18, if_pos (Int32.not_le.mp c25)])), rfl, rfl⟩
          | exact wa_ireturn dX6_why_77 ⟨Nat.le_refl _, Nat.le_refl _, ⟨_, rfl, rfl⟩, (ri (by rw [if_pos c18, if_neg (Int32.not_lt.mpr c25)])), rfl, rfl⟩
          | exact wa_ireturn dX6_why_77 ⟨Nat.le_refl _, Nat.le_refl _, ⟨_, rfl, rfl⟩, (ri (by rw [if_neg (not_not_intro c18), if_pos (Int32.not_le.mp c38)])), rfl, rfl⟩
          | exact wa_ireturn dX6_why_77 ⟨Nat.le_refl _, Nat.le_refl _, ⟨_, rfl, rfl⟩, (ri (by rw [if_neg (not_not_intro c18), if_neg (Int32.not_lt.mpr c38), if_pos (Int32.not_lt.mp c63)])), rfl, rfl⟩
          | exact wa_ireturn dX6_why_77 ⟨Nat.le_refl _, Nat.le_refl _, ⟨_, rfl, rfl⟩, (ri (by rw [if_neg (not_not_intro c18), if_neg (Int32.not_lt.mpr c38), if_neg (Int32.not_le.mpr c63), if_pos (Int32.not_le.mp (fun z => c69 ((mis_pos hg hT hi).mpr z)))])), rfl, rfl⟩
          | exact wa_ireturn dX6_why_77 ⟨Nat.le_refl _, Nat.le_refl _, ⟨_, rfl, rfl⟩, (ri (by rw [if_neg (not_not_intro c18), if_neg (Int32.not_lt.mpr c38), if_neg (Int32.not_le.mpr c63), if_neg (Int32.not_lt.mpr ((mis_pos hg hT hi).mp c69))])), rfl, rfl⟩
        · refine wa_iconst (x := 5) dX6_why_72 (by decide) ?_
          refine wa_goto 77 dX6_why_73 rfl ?_
          first
          | exact wa_ireturn dX6_why_77 ⟨Nat.le_refl _, Nat.le_refl _, ⟨_, rfl, rfl⟩, (ri (by rw [if_pos c18, if_pos (Int32.not_le.mp c25)])), rfl, rfl⟩
          | exact wa_ireturn dX6_why_77 ⟨Nat.le_refl _, Nat.le_refl _, ⟨_, rfl, rfl⟩, (ri (by rw [if_pos c18, if_neg (Int32.not_lt.mpr c25)])), rfl, rfl⟩
          | exact wa_ireturn dX6_why_77 ⟨Nat.le_refl _, Nat.le_refl _, ⟨_, rfl, rfl⟩, (ri (by rw [if_neg (not_not_intro c18), if_pos (Int32.not_le.mp c38)])), rfl, rfl⟩
          | exact wa_ireturn dX6_why_77 ⟨Nat.le_refl _, Nat.le_refl _, ⟨_, rfl, rfl⟩, (ri (by rw [if_neg (not_not_intro c18), if_neg (Int32.not_lt.mpr c38), if_pos (Int32.not_lt.mp c63)])), rfl, rfl⟩
          | exact wa_ireturn dX6_why_77 ⟨Nat.le_refl _, Nat.le_refl _, ⟨_, rfl, rfl⟩, (ri (by rw [if_neg (not_not_intro c18), if_neg (Int32.not_lt.mpr c38), if_neg (Int32.not_le.mpr c63), if_pos (Int32.not_le.mp (fun z => c69 ((mis_pos hg hT hi).mpr z)))])), rfl, rfl⟩
          | exact wa_ireturn dX6_why_77 ⟨Nat.le_refl _, Nat.le_refl _, ⟨_, rfl, rfl⟩, (ri (by rw [if_neg (not_not_intro c18), if_neg (Int32.not_lt.mpr c38), if_neg (Int32.not_le.mpr c63), if_neg (Int32.not_lt.mpr ((mis_pos hg hT hi).mp c69))])), rfl, rfl⟩
      · refine wa_iconst (x := 3) dX6_why_66 (by decide) ?_
        first
        | exact wa_ireturn dX6_why_67 ⟨Nat.le_refl _, Nat.le_refl _, ⟨_, rfl, rfl⟩, (ri (by rw [if_pos c18, if_pos (Int32.not_le.mp c25)])), rfl, rfl⟩
        | exact wa_ireturn dX6_why_67 ⟨Nat.le_refl _, Nat.le_refl _, ⟨_, rfl, rfl⟩, (ri (by rw [if_pos c18, if_neg (Int32.not_lt.mpr c25)])), rfl, rfl⟩
        | exact wa_ireturn dX6_why_67 ⟨Nat.le_refl _, Nat.le_refl _, ⟨_, rfl, rfl⟩, (ri (by rw [if_neg (not_not_intro c18), if_pos (Int32.not_le.mp c38)])), rfl, rfl⟩
        | exact wa_ireturn dX6_why_67 ⟨Nat.le_refl _, Nat.le_refl _, ⟨_, rfl, rfl⟩, (ri (by rw [if_neg (not_not_intro c18), if_neg (Int32.not_lt.mpr c38), if_pos (Int32.not_lt.mp c63)])), rfl, rfl⟩
        | exact wa_ireturn dX6_why_67 ⟨Nat.le_refl _, Nat.le_refl _, ⟨_, rfl, rfl⟩, (ri (by rw [if_neg (not_not_intro c18), if_neg (Int32.not_lt.mpr c38), if_neg (Int32.not_le.mpr c63), if_pos (Int32.not_le.mp (fun z => c69 ((mis_pos hg hT hi).mpr z)))])), rfl, rfl⟩
        | exact wa_ireturn dX6_why_67 ⟨Nat.le_refl _, Nat.le_refl _, ⟨_, rfl, rfl⟩, (ri (by rw [if_neg (not_not_intro c18), if_neg (Int32.not_lt.mpr c38), if_neg (Int32.not_le.mpr c63), if_neg (Int32.not_lt.mpr ((mis_pos hg hT hi).mp c69))])), rfl, rfl⟩
    · refine wa_iconst (x := 2) dX6_why_41 (by decide) ?_
      first
      | exact wa_ireturn dX6_why_42 ⟨Nat.le_refl _, Nat.le_refl _, ⟨_, rfl, rfl⟩, (ri (by rw [if_pos c18, if_pos (Int32.not_le.mp c25)])), rfl, rfl⟩
      | exact wa_ireturn dX6_why_42 ⟨Nat.le_refl _, Nat.le_refl _, ⟨_, rfl, rfl⟩, (ri (by rw [if_pos c18, if_neg (Int32.not_lt.mpr c25)])), rfl, rfl⟩
      | exact wa_ireturn dX6_why_42 ⟨Nat.le_refl _, Nat.le_refl _, ⟨_, rfl, rfl⟩, (ri (by rw [if_neg (not_not_intro c18), if_pos (Int32.not_le.mp c38)])), rfl, rfl⟩
      | exact wa_ireturn dX6_why_42 ⟨Nat.le_refl _, Nat.le_refl _, ⟨_, rfl, rfl⟩, (ri (by rw [if_neg (not_not_intro c18), if_neg (Int32.not_lt.mpr c38), if_pos (Int32.not_lt.mp c63)])), rfl, rfl⟩
      | exact wa_ireturn dX6_why_42 ⟨Nat.le_refl _, Nat.le_refl _, ⟨_, rfl, rfl⟩, (ri (by rw [if_neg (not_not_intro c18), if_neg (Int32.not_lt.mpr c38), if_neg (Int32.not_le.mpr c63), if_pos (Int32.not_le.mp (fun z => c69 ((mis_pos hg hT hi).mpr z)))])), rfl, rfl⟩
      | exact wa_ireturn dX6_why_42 ⟨Nat.le_refl _, Nat.le_refl _, ⟨_, rfl, rfl⟩, (ri (by rw [if_neg (not_not_intro c18), if_neg (Int32.not_lt.mpr c38), if_neg (Int32.not_le.mpr c63), if_neg (Int32.not_lt.mpr ((mis_pos hg hT hi).mp c69))])), rfl, rfl⟩
  · refine wa_aload_n dX6_why_21 rfl ?_
    refine L_n hl hn 2 dX6_why_22 fl_X6_146 (by decide) (fun _ _ _ => rfl) ?_
    refine wa_if_le 32 dX6_why_25 rfl (fun c25 => ?_) (fun c25 => ?_)
    · refine wa_iconst (x := 1) dX6_why_32 (by decide) ?_
      first
      | exact wa_ireturn dX6_why_33 ⟨Nat.le_refl _, Nat.le_refl _, ⟨_, rfl, rfl⟩, (ri (by rw [if_pos c18, if_pos (Int32.not_le.mp c25)])), rfl, rfl⟩
      | exact wa_ireturn dX6_why_33 ⟨Nat.le_refl _, Nat.le_refl _, ⟨_, rfl, rfl⟩, (ri (by rw [if_pos c18, if_neg (Int32.not_lt.mpr c25)])), rfl, rfl⟩
      | exact wa_ireturn dX6_why_33 ⟨Nat.le_refl _, Nat.le_refl _, ⟨_, rfl, rfl⟩, (ri (by rw [if_neg (not_not_intro c18), if_pos (Int32.not_le.mp c38)])), rfl, rfl⟩
      | exact wa_ireturn dX6_why_33 ⟨Nat.le_refl _, Nat.le_refl _, ⟨_, rfl, rfl⟩, (ri (by rw [if_neg (not_not_intro c18), if_neg (Int32.not_lt.mpr c38), if_pos (Int32.not_lt.mp c63)])), rfl, rfl⟩
      | exact wa_ireturn dX6_why_33 ⟨Nat.le_refl _, Nat.le_refl _, ⟨_, rfl, rfl⟩, (ri (by rw [if_neg (not_not_intro c18), if_neg (Int32.not_lt.mpr c38), if_neg (Int32.not_le.mpr c63), if_pos (Int32.not_le.mp (fun z => c69 ((mis_pos hg hT hi).mpr z)))])), rfl, rfl⟩
      | exact wa_ireturn dX6_why_33 ⟨Nat.le_refl _, Nat.le_refl _, ⟨_, rfl, rfl⟩, (ri (by rw [if_neg (not_not_intro c18), if_neg (Int32.not_lt.mpr c38), if_neg (Int32.not_le.mpr c63), if_neg (Int32.not_lt.mpr ((mis_pos hg hT hi).mp c69))])), rfl, rfl⟩
    · refine wa_iconst (x := 0) dX6_why_28 (by decide) ?_
      refine wa_goto 33 dX6_why_29 rfl ?_
      first
      | exact wa_ireturn dX6_why_33 ⟨Nat.le_refl _, Nat.le_refl _, ⟨_, rfl, rfl⟩, (ri (by rw [if_pos c18, if_pos (Int32.not_le.mp c25)])), rfl, rfl⟩
      | exact wa_ireturn dX6_why_33 ⟨Nat.le_refl _, Nat.le_refl _, ⟨_, rfl, rfl⟩, (ri (by rw [if_pos c18, if_neg (Int32.not_lt.mpr c25)])), rfl, rfl⟩
      | exact wa_ireturn dX6_why_33 ⟨Nat.le_refl _, Nat.le_refl _, ⟨_, rfl, rfl⟩, (ri (by rw [if_neg (not_not_intro c18), if_pos (Int32.not_le.mp c38)])), rfl, rfl⟩
      | exact wa_ireturn dX6_why_33 ⟨Nat.le_refl _, Nat.le_refl _, ⟨_, rfl, rfl⟩, (ri (by rw [if_neg (not_not_intro c18), if_neg (Int32.not_lt.mpr c38), if_pos (Int32.not_lt.mp c63)])), rfl, rfl⟩
      | exact wa_ireturn dX6_why_33 ⟨Nat.le_refl _, Nat.le_refl _, ⟨_, rfl, rfl⟩, (ri (by rw [if_neg (not_not_intro c18), if_neg (Int32.not_lt.mpr c38), if_neg (Int32.not_le.mpr c63), if_pos (Int32.not_le.mp (fun z => c69 ((mis_pos hg hT hi).mpr z)))])), rfl, rfl⟩
      | exact wa_ireturn dX6_why_33 ⟨Nat.le_refl _, Nat.le_refl _, ⟨_, rfl, rfl⟩, (ri (by rw [if_neg (not_not_intro c18), if_neg (Int32.not_lt.mpr c38), if_neg (Int32.not_le.mpr c63), if_neg (Int32.not_lt.mpr ((mis_pos hg hT hi).mp c69))])), rfl, rfl⟩
theorem vr_planned_1 {n : Nat} {S : SS} {g : Nat → Int32} {T : Int} (hn : 279 ≤ n) (h : HH S 34 g (fun _ => True)) (hg : GG T g) (k what : Int32) (h1 : ¬ ((0 ≤ k ∧ k < g 3))) : AM yX6_planned cX6_planned 3 (some .int) [] 1 1 6 [.ref 0, .int k, .int what] n (Hp S) (PX ab_xI n S) := by
  intro has
  change WA RX6 cX6_planned 3 [] _ _ 0 0 0 [some (.ref 0), some (.int k), some (.int what)] [] n _
  refine wa_aload_n dX6_planned_0 rfl ?_
  refine wa_iload_n dX6_planned_1 rfl ?_
  exact c_VX dX6_planned_2 (vr_planX hn h h1) lk_X6_208 rfl (isO_VR _ _ _) rfl (ltS hn) (wt_out ⟨Nat.le_refl _, Nat.le_refl _, trivial, rfl, rfl, rfl⟩ (by decide))
theorem vr_planned_2 {n : Nat} {S : SS} {g : Nat → Int32} {T : Int} (hn : 279 ≤ n) (h : HH S 34 g (fun _ => True)) (hg : GG T g) (k what : Int32) (h1 : ((0 ≤ k ∧ k < g 3))) (h2 : ¬ (inr what 0 2)) : AM yX6_planned cX6_planned 3 (some .int) [] 1 1 6 [.ref 0, .int k, .int what] n (Hp S) (PX ab_xA n S) := by
  intro has
  change WA RX6 cX6_planned 3 [] _ _ 0 0 0 [some (.ref 0), some (.int k), some (.int what)] [] n _
  refine wa_aload_n dX6_planned_0 rfl ?_
  refine wa_iload_n dX6_planned_1 rfl ?_
  refine c_VV dX6_planned_2 (vr_plan hn h h1) lk_X6_208 rfl (isO_VR _ _ _) rfl (ltS hn) ?_
  refine wa_iload_n dX6_planned_5 rfl ?_
  refine wa_iconst (x := 0) dX6_planned_6 (by decide) ?_
  refine wa_iconst (x := 2) dX6_planned_7 (by decide) ?_
  exact c_SX dX6_planned_8 (vr_rangeX h2) lk_X6_62 rfl (wt_out ⟨Nat.le_refl _, Nat.le_refl _, trivial, rfl, rfl, rfl⟩ (by decide))
theorem vr_planned_0_0 {n : Nat} {S : SS} {g : Nat → Int32} {T : Int} (hn : 279 ≤ n) (h : HH S 34 g (fun _ => True)) (hg : GG T g) (hT : T ≤ 300000) {k : Nat} (hk : k < pn g) (h1 : 0 ≤ nI k ∧ nI k < g 3) : AM yX6_planned cX6_planned 3 (some .int) [] 1 0 0 [.ref 0, .int (nI k), .int 0] n (Hp S) (PI (g (11 + 3 * k + 0)) n S) := by
  intro has
  change WA RX6 cX6_planned 3 [] _ _ 0 0 0 [some (.ref 0), some (.int (nI k)), some (.int 0)] [] n _
  have h20 := hg.pn20
  refine wa_aload_n dX6_planned_0 rfl ?_
  refine wa_iload_n dX6_planned_1 rfl ?_
  refine c_VV dX6_planned_2 (vr_plan hn h h1) lk_X6_208 rfl (isO_VR _ _ _) rfl (ltS hn) ?_
  refine wa_iload_n dX6_planned_5 rfl ?_
  refine wa_iconst (x := 0) dX6_planned_6 (by decide) ?_
  refine wa_iconst (x := 2) dX6_planned_7 (by decide) ?_
  refine c_SV dX6_planned_8 (vr_range (by decide) (by decide)) lk_X6_62 rfl ?_
  refine wa_iload_n dX6_planned_11 rfl ?_
  refine wa_lookup (off := 28) 40 dX6_planned_12 (by decide) (by decide) rfl ?_
  refine wa_aload_n dX6_planned_40 rfl ?_
  refine g_VR (by assumption) 4 dX6_planned_41 fl_X6_26 (by decide) rfl ?_
  refine g_HO h.H hn 12 dX6_planned_44 fl_X6_211 (by decide) rfl ?_
  refine wa_iload_n dX6_planned_47 rfl ?_
  refine s_iald (j := k) (isH.pl h.H (o := 2) (by decide) (by decide)) dX6_planned_48 (lt_pl h.H hn) (ix_nI (by omega)) (by omega) ?_
  rw [show S.1 (34 + 2) k = g (11 + 3 * k + 0) from (h.2.2.1 k hk).1]
  exact wa_ireturn dX6_planned_49 ⟨Nat.le_refl _, Nat.le_refl _, ⟨_, rfl, rfl⟩, rfl, rfl, rfl⟩
theorem vr_planned_0_1 {n : Nat} {S : SS} {g : Nat → Int32} {T : Int} (hn : 279 ≤ n) (h : HH S 34 g (fun _ => True)) (hg : GG T g) (hT : T ≤ 300000) {k : Nat} (hk : k < pn g) (h1 : 0 ≤ nI k ∧ nI k < g 3) : AM yX6_planned cX6_planned 3 (some .int) [] 1 0 0 [.ref 0, .int (nI k), .int 1] n (Hp S) (PI (g (11 + 3 * k + 1)) n S) := by
  intro has
  change WA RX6 cX6_planned 3 [] _ _ 0 0 0 [some (.ref 0), some (.int (nI k)), some (.int 1)] [] n _
  have h20 := hg.pn20
  refine wa_aload_n dX6_planned_0 rfl ?_
  refine wa_iload_n dX6_planned_1 rfl ?_
  refine c_VV dX6_planned_2 (vr_plan hn h h1) lk_X6_208 rfl (isO_VR _ _ _) rfl (ltS hn) ?_
  refine wa_iload_n dX6_planned_5 rfl ?_
  refine wa_iconst (x := 0) dX6_planned_6 (by decide) ?_
  refine wa_iconst (x := 2) dX6_planned_7 (by decide) ?_
  refine c_SV dX6_planned_8 (vr_range (by decide) (by decide)) lk_X6_62 rfl ?_
  refine wa_iload_n dX6_planned_11 rfl ?_
  refine wa_lookup (off := 38) 50 dX6_planned_12 (by decide) (by decide) rfl ?_
  refine wa_aload_n dX6_planned_50 rfl ?_
  refine g_VR (by assumption) 4 dX6_planned_51 fl_X6_26 (by decide) rfl ?_
  refine g_HO h.H hn 13 dX6_planned_54 fl_X6_214 (by decide) rfl ?_
  refine wa_iload_n dX6_planned_57 rfl ?_
  refine s_iald (j := k) (isH.pl h.H (o := 3) (by decide) (by decide)) dX6_planned_58 (lt_pl h.H hn) (ix_nI (by omega)) (by omega) ?_
  rw [show S.1 (34 + 3) k = g (11 + 3 * k + 1) from (h.2.2.1 k hk).2.1]
  exact wa_ireturn dX6_planned_59 ⟨Nat.le_refl _, Nat.le_refl _, ⟨_, rfl, rfl⟩, rfl, rfl, rfl⟩
theorem vr_planned_0_2 {n : Nat} {S : SS} {g : Nat → Int32} {T : Int} (hn : 279 ≤ n) (h : HH S 34 g (fun _ => True)) (hg : GG T g) (hT : T ≤ 300000) {k : Nat} (hk : k < pn g) (h1 : 0 ≤ nI k ∧ nI k < g 3) : AM yX6_planned cX6_planned 3 (some .int) [] 1 0 0 [.ref 0, .int (nI k), .int 2] n (Hp S) (PI (g (11 + 3 * k + 2)) n S) := by
  intro has
  change WA RX6 cX6_planned 3 [] _ _ 0 0 0 [some (.ref 0), some (.int (nI k)), some (.int 2)] [] n _
  have h20 := hg.pn20
  refine wa_aload_n dX6_planned_0 rfl ?_
  refine wa_iload_n dX6_planned_1 rfl ?_
  refine c_VV dX6_planned_2 (vr_plan hn h h1) lk_X6_208 rfl (isO_VR _ _ _) rfl (ltS hn) ?_
  refine wa_iload_n dX6_planned_5 rfl ?_
  refine wa_iconst (x := 0) dX6_planned_6 (by decide) ?_
  refine wa_iconst (x := 2) dX6_planned_7 (by decide) ?_
  refine c_SV dX6_planned_8 (vr_range (by decide) (by decide)) lk_X6_62 rfl ?_
  refine wa_iload_n dX6_planned_11 rfl ?_
  refine wa_lookup (off := 48) 60 dX6_planned_12 (by decide) (by decide) rfl ?_
  refine wa_aload_n dX6_planned_60 rfl ?_
  refine g_VR (by assumption) 4 dX6_planned_61 fl_X6_26 (by decide) rfl ?_
  refine g_HO h.H hn 14 dX6_planned_64 fl_X6_217 (by decide) rfl ?_
  refine wa_iload_n dX6_planned_67 rfl ?_
  refine s_iald (j := k) (isH.pl h.H (o := 4) (by decide) (by decide)) dX6_planned_68 (lt_pl h.H hn) (ix_nI (by omega)) (by omega) ?_
  rw [show S.1 (34 + 4) k = g (11 + 3 * k + 2) from (h.2.2.1 k hk).2.2]
  exact wa_ireturn dX6_planned_69 ⟨Nat.le_refl _, Nat.le_refl _, ⟨_, rfl, rfl⟩, rfl, rfl, rfl⟩
theorem vr_property_1 {n : Nat} {S : SS} {g : Nat → Int32} {T : Int} (hn : 279 ≤ n) (h : HH S 34 g (fun _ => True)) (hg : GG T g) (x : Int32) (h1 : ¬ (inr x 0 11)) : AM yX6_property cX6_property 2 (some .int) [] 1 1 6 [.ref 0, .int x] n (Hp S) (PX ab_xA n S) := by
  intro has
  change WA RX6 cX6_property 2 [] _ _ 0 0 0 [some (.ref 0), some (.int x)] [] n _
  refine wa_iload_n dX6_property_0 rfl ?_
  refine wa_iconst (x := 0) dX6_property_1 (by decide) ?_
  refine wa_bipush (x := 11) dX6_property_2 (by decide) ?_
  exact c_SX dX6_property_4 (vr_rangeX h1) lk_X6_62 rfl (wt_out ⟨Nat.le_refl _, Nat.le_refl _, trivial, rfl, rfl, rfl⟩ (by decide))
theorem hh_tickOfDayH {n : Nat} {S : SS} {g : Nat → Int32} {T : Int} (hn : 279 ≤ n) (h : HH S 34 g (fun _ => True)) (hg : GG T g) : AM yX1_tickOfDay cX1_tickOfDay 1 (some .int) [] 0 0 0 [.ref 34] n (Hp S) (PI (g 1 - g 1 / 48 * 48) n S) := by
  intro has
  change WA RX1 cX1_tickOfDay 1 [] _ _ 0 0 0 [some (.ref 34)] [] n _
  refine wa_aload_n dX1_tickOfDay_0 rfl ?_
  refine H_hd h hn 0 dX1_tickOfDay_1 fl_X1_31 (by decide) (by decide) (fun _ _ _ => rfl) ?_
  refine wa_bipush (x := 48) dX1_tickOfDay_4 (by decide) ?_
  refine wa_irem dX1_tickOfDay_6 (by decide) ?_
  exact wa_ireturn dX1_tickOfDay_7 ⟨Nat.le_refl _, Nat.le_refl _, ⟨_, rfl, rfl⟩, rfl, rfl, rfl⟩
theorem vr_property_0_0 {n : Nat} {S : SS} {g : Nat → Int32} {T : Int} (hn : 279 ≤ n) (h : HH S 34 g (fun _ => True)) (hg : GG T g) : AM yX6_property cX6_property 2 (some .int) [] 1 0 0 [.ref 0, .int 0] n (Hp S) (PI (g 0) n S) := by
  intro has
  change WA RX6 cX6_property 2 [] _ _ 0 0 0 [some (.ref 0), some (.int 0)] [] n _
  refine wa_iload_n dX6_property_0 rfl ?_
  refine wa_iconst (x := 0) dX6_property_1 (by decide) ?_
  refine wa_bipush (x := 11) dX6_property_2 (by decide) ?_
  refine c_SV dX6_property_4 (vr_range (by decide) (by decide)) lk_X6_62 rfl ?_
  refine wa_iload_n dX6_property_7 rfl ?_
  refine wa_tableIn 68 dX6_property_8 (by decide) (by decide) rfl rfl ?_
  refine wa_aload_n dX6_property_68 rfl ?_
  refine g_VR (by assumption) 4 dX6_property_69 fl_X6_26 (by decide) rfl ?_
  refine H_hd h hn 9 dX6_property_72 fl_X6_89 (by decide) (by decide) (fun _ _ _ => rfl) ?_
  exact wa_ireturn dX6_property_75 ⟨Nat.le_refl _, Nat.le_refl _, ⟨_, rfl, rfl⟩, rfl, rfl, rfl⟩
theorem vr_property_0_1 {n : Nat} {S : SS} {g : Nat → Int32} {T : Int} (hn : 279 ≤ n) (h : HH S 34 g (fun _ => True)) (hg : GG T g) : AM yX6_property cX6_property 2 (some .int) [] 1 0 0 [.ref 0, .int 1] n (Hp S) (PI (g 1) n S) := by
  intro has
  change WA RX6 cX6_property 2 [] _ _ 0 0 0 [some (.ref 0), some (.int 1)] [] n _
  refine wa_iload_n dX6_property_0 rfl ?_
  refine wa_iconst (x := 0) dX6_property_1 (by decide) ?_
  refine wa_bipush (x := 11) dX6_property_2 (by decide) ?_
  refine c_SV dX6_property_4 (vr_range (by decide) (by decide)) lk_X6_62 rfl ?_
  refine wa_iload_n dX6_property_7 rfl ?_
  refine wa_tableIn 76 dX6_property_8 (by decide) (by decide) rfl rfl ?_
  refine wa_aload_n dX6_property_76 rfl ?_
  refine g_VR (by assumption) 4 dX6_property_77 fl_X6_26 (by decide) rfl ?_
  refine H_hd h hn 0 dX6_property_80 fl_X6_100 (by decide) (by decide) (fun _ _ _ => rfl) ?_
  exact wa_ireturn dX6_property_83 ⟨Nat.le_refl _, Nat.le_refl _, ⟨_, rfl, rfl⟩, rfl, rfl, rfl⟩
theorem vr_property_0_2 {n : Nat} {S : SS} {g : Nat → Int32} {T : Int} (hn : 279 ≤ n) (h : HH S 34 g (fun _ => True)) (hg : GG T g) : AM yX6_property cX6_property 2 (some .int) [] 1 0 0 [.ref 0, .int 2] n (Hp S) (PI (g 1 - g 1 / 48 * 48) n S) := by
  intro has
  change WA RX6 cX6_property 2 [] _ _ 0 0 0 [some (.ref 0), some (.int 2)] [] n _
  refine wa_iload_n dX6_property_0 rfl ?_
  refine wa_iconst (x := 0) dX6_property_1 (by decide) ?_
  refine wa_bipush (x := 11) dX6_property_2 (by decide) ?_
  refine c_SV dX6_property_4 (vr_range (by decide) (by decide)) lk_X6_62 rfl ?_
  refine wa_iload_n dX6_property_7 rfl ?_
  refine wa_tableIn 84 dX6_property_8 (by decide) (by decide) rfl rfl ?_
  refine wa_aload_n dX6_property_84 rfl ?_
  refine g_VR (by assumption) 4 dX6_property_85 fl_X6_26 (by decide) rfl ?_
  refine c_VI dX6_property_88 (hh_tickOfDayH hn h hg) lk_X6_103 rfl (isH.HO h.H _ _ _) rfl (lt_HO h.H hn) ?_
  exact wa_ireturn dX6_property_91 ⟨Nat.le_refl _, Nat.le_refl _, ⟨_, rfl, rfl⟩, rfl, rfl, rfl⟩
theorem vr_property_0_3 {n : Nat} {S : SS} {g : Nat → Int32} {T : Int} (hn : 279 ≤ n) (h : HH S 34 g (fun _ => True)) (hg : GG T g) : AM yX6_property cX6_property 2 (some .int) [] 1 0 0 [.ref 0, .int 3] n (Hp S) (PI (g 2) n S) := by
  intro has
  change WA RX6 cX6_property 2 [] _ _ 0 0 0 [some (.ref 0), some (.int 3)] [] n _
  refine wa_iload_n dX6_property_0 rfl ?_
  refine wa_iconst (x := 0) dX6_property_1 (by decide) ?_
  refine wa_bipush (x := 11) dX6_property_2 (by decide) ?_
  refine c_SV dX6_property_4 (vr_range (by decide) (by decide)) lk_X6_62 rfl ?_
  refine wa_iload_n dX6_property_7 rfl ?_
  refine wa_tableIn 92 dX6_property_8 (by decide) (by decide) rfl rfl ?_
  refine wa_aload_n dX6_property_92 rfl ?_
  refine g_VR (by assumption) 4 dX6_property_93 fl_X6_26 (by decide) rfl ?_
  refine H_hd h hn 1 dX6_property_96 fl_X6_107 (by decide) (by decide) (fun _ _ _ => rfl) ?_
  exact wa_ireturn dX6_property_99 ⟨Nat.le_refl _, Nat.le_refl _, ⟨_, rfl, rfl⟩, rfl, rfl, rfl⟩
theorem vr_property_0_4 {n : Nat} {S : SS} {g : Nat → Int32} {T : Int} (hn : 279 ≤ n) (h : HH S 34 g (fun _ => True)) (hg : GG T g) : AM yX6_property cX6_property 2 (some .int) [] 1 0 0 [.ref 0, .int 4] n (Hp S) (PI (g 3) n S) := by
  intro has
  change WA RX6 cX6_property 2 [] _ _ 0 0 0 [some (.ref 0), some (.int 4)] [] n _
  refine wa_iload_n dX6_property_0 rfl ?_
  refine wa_iconst (x := 0) dX6_property_1 (by decide) ?_
  refine wa_bipush (x := 11) dX6_property_2 (by decide) ?_
  refine c_SV dX6_property_4 (vr_range (by decide) (by decide)) lk_X6_62 rfl ?_
  refine wa_iload_n dX6_property_7 rfl ?_
  refine wa_tableIn 100 dX6_property_8 (by decide) (by decide) rfl rfl ?_
  refine wa_aload_n dX6_property_100 rfl ?_
  refine g_VR (by assumption) 4 dX6_property_101 fl_X6_26 (by decide) rfl ?_
  refine H_hd h hn 11 dX6_property_104 fl_X6_110 (by decide) (by decide) (fun _ _ _ => rfl) ?_
  exact wa_ireturn dX6_property_107 ⟨Nat.le_refl _, Nat.le_refl _, ⟨_, rfl, rfl⟩, rfl, rfl, rfl⟩
theorem vr_property_0_5 {n : Nat} {S : SS} {g : Nat → Int32} {T : Int} (hn : 279 ≤ n) (h : HH S 34 g (fun _ => True)) (hg : GG T g) : AM yX6_property cX6_property 2 (some .int) [] 1 0 0 [.ref 0, .int 5] n (Hp S) (PI (g 4) n S) := by
  intro has
  change WA RX6 cX6_property 2 [] _ _ 0 0 0 [some (.ref 0), some (.int 5)] [] n _
  refine wa_iload_n dX6_property_0 rfl ?_
  refine wa_iconst (x := 0) dX6_property_1 (by decide) ?_
  refine wa_bipush (x := 11) dX6_property_2 (by decide) ?_
  refine c_SV dX6_property_4 (vr_range (by decide) (by decide)) lk_X6_62 rfl ?_
  refine wa_iload_n dX6_property_7 rfl ?_
  refine wa_tableIn 108 dX6_property_8 (by decide) (by decide) rfl rfl ?_
  refine wa_aload_n dX6_property_108 rfl ?_
  refine g_VR (by assumption) 4 dX6_property_109 fl_X6_26 (by decide) rfl ?_
  refine H_hd h hn 2 dX6_property_112 fl_X6_113 (by decide) (by decide) (fun _ _ _ => rfl) ?_
  exact wa_ireturn dX6_property_115 ⟨Nat.le_refl _, Nat.le_refl _, ⟨_, rfl, rfl⟩, rfl, rfl, rfl⟩
theorem vr_property_0_6 {n : Nat} {S : SS} {g : Nat → Int32} {T : Int} (hn : 279 ≤ n) (h : HH S 34 g (fun _ => True)) (hg : GG T g) : AM yX6_property cX6_property 2 (some .int) [] 1 0 0 [.ref 0, .int 6] n (Hp S) (PI (g 5) n S) := by
  intro has
  change WA RX6 cX6_property 2 [] _ _ 0 0 0 [some (.ref 0), some (.int 6)] [] n _
  refine wa_iload_n dX6_property_0 rfl ?_
  refine wa_iconst (x := 0) dX6_property_1 (by decide) ?_
  refine wa_bipush (x := 11) dX6_property_2 (by decide) ?_
  refine c_SV dX6_property_4 (vr_range (by decide) (by decide)) lk_X6_62 rfl ?_
  refine wa_iload_n dX6_property_7 rfl ?_
  refine wa_tableIn 116 dX6_property_8 (by decide) (by decide) rfl rfl ?_
  refine wa_aload_n dX6_property_116 rfl ?_
  refine g_VR (by assumption) 4 dX6_property_117 fl_X6_26 (by decide) rfl ?_
  refine H_hd h hn 3 dX6_property_120 fl_X6_116 (by decide) (by decide) (fun _ _ _ => rfl) ?_
  exact wa_ireturn dX6_property_123 ⟨Nat.le_refl _, Nat.le_refl _, ⟨_, rfl, rfl⟩, rfl, rfl, rfl⟩
theorem vr_property_0_7 {n : Nat} {S : SS} {g : Nat → Int32} {T : Int} (hn : 279 ≤ n) (h : HH S 34 g (fun _ => True)) (hg : GG T g) : AM yX6_property cX6_property 2 (some .int) [] 1 0 0 [.ref 0, .int 7] n (Hp S) (PI (g 6) n S) := by
  intro has
  change WA RX6 cX6_property 2 [] _ _ 0 0 0 [some (.ref 0), some (.int 7)] [] n _
  refine wa_iload_n dX6_property_0 rfl ?_
  refine wa_iconst (x := 0) dX6_property_1 (by decide) ?_
  refine wa_bipush (x := 11) dX6_property_2 (by decide) ?_
  refine c_SV dX6_property_4 (vr_range (by decide) (by decide)) lk_X6_62 rfl ?_
  refine wa_iload_n dX6_property_7 rfl ?_
  refine wa_tableIn 124 dX6_property_8 (by decide) (by decide) rfl rfl ?_
  refine wa_aload_n dX6_property_124 rfl ?_
  refine g_VR (by assumption) 4 dX6_property_125 fl_X6_26 (by decide) rfl ?_
  refine H_hd h hn 4 dX6_property_128 fl_X6_119 (by decide) (by decide) (fun _ _ _ => rfl) ?_
  exact wa_ireturn dX6_property_131 ⟨Nat.le_refl _, Nat.le_refl _, ⟨_, rfl, rfl⟩, rfl, rfl, rfl⟩
theorem vr_property_0_8 {n : Nat} {S : SS} {g : Nat → Int32} {T : Int} (hn : 279 ≤ n) (h : HH S 34 g (fun _ => True)) (hg : GG T g) : AM yX6_property cX6_property 2 (some .int) [] 1 0 0 [.ref 0, .int 8] n (Hp S) (PI (g 7) n S) := by
  intro has
  change WA RX6 cX6_property 2 [] _ _ 0 0 0 [some (.ref 0), some (.int 8)] [] n _
  refine wa_iload_n dX6_property_0 rfl ?_
  refine wa_iconst (x := 0) dX6_property_1 (by decide) ?_
  refine wa_bipush (x := 11) dX6_property_2 (by decide) ?_
  refine c_SV dX6_property_4 (vr_range (by decide) (by decide)) lk_X6_62 rfl ?_
  refine wa_iload_n dX6_property_7 rfl ?_
  refine wa_tableIn 132 dX6_property_8 (by decide) (by decide) rfl rfl ?_
  refine wa_aload_n dX6_property_132 rfl ?_
  refine g_VR (by assumption) 4 dX6_property_133 fl_X6_26 (by decide) rfl ?_
  refine H_hd h hn 5 dX6_property_136 fl_X6_122 (by decide) (by decide) (fun _ _ _ => rfl) ?_
  exact wa_ireturn dX6_property_139 ⟨Nat.le_refl _, Nat.le_refl _, ⟨_, rfl, rfl⟩, rfl, rfl, rfl⟩
theorem vr_property_0_9 {n : Nat} {S : SS} {g : Nat → Int32} {T : Int} (hn : 279 ≤ n) (h : HH S 34 g (fun _ => True)) (hg : GG T g) : AM yX6_property cX6_property 2 (some .int) [] 1 0 0 [.ref 0, .int 9] n (Hp S) (PI (g 8) n S) := by
  intro has
  change WA RX6 cX6_property 2 [] _ _ 0 0 0 [some (.ref 0), some (.int 9)] [] n _
  refine wa_iload_n dX6_property_0 rfl ?_
  refine wa_iconst (x := 0) dX6_property_1 (by decide) ?_
  refine wa_bipush (x := 11) dX6_property_2 (by decide) ?_
  refine c_SV dX6_property_4 (vr_range (by decide) (by decide)) lk_X6_62 rfl ?_
  refine wa_iload_n dX6_property_7 rfl ?_
  refine wa_tableIn 140 dX6_property_8 (by decide) (by decide) rfl rfl ?_
  refine wa_aload_n dX6_property_140 rfl ?_
  refine g_VR (by assumption) 4 dX6_property_141 fl_X6_26 (by decide) rfl ?_
  refine H_hd h hn 6 dX6_property_144 fl_X6_125 (by decide) (by decide) (fun _ _ _ => rfl) ?_
  exact wa_ireturn dX6_property_147 ⟨Nat.le_refl _, Nat.le_refl _, ⟨_, rfl, rfl⟩, rfl, rfl, rfl⟩
theorem vr_property_0_10 {n : Nat} {S : SS} {g : Nat → Int32} {T : Int} (hn : 279 ≤ n) (h : HH S 34 g (fun _ => True)) (hg : GG T g) : AM yX6_property cX6_property 2 (some .int) [] 1 0 0 [.ref 0, .int 10] n (Hp S) (PI (g 9) n S) := by
  intro has
  change WA RX6 cX6_property 2 [] _ _ 0 0 0 [some (.ref 0), some (.int 10)] [] n _
  refine wa_iload_n dX6_property_0 rfl ?_
  refine wa_iconst (x := 0) dX6_property_1 (by decide) ?_
  refine wa_bipush (x := 11) dX6_property_2 (by decide) ?_
  refine c_SV dX6_property_4 (vr_range (by decide) (by decide)) lk_X6_62 rfl ?_
  refine wa_iload_n dX6_property_7 rfl ?_
  refine wa_tableIn 148 dX6_property_8 (by decide) (by decide) rfl rfl ?_
  refine wa_aload_n dX6_property_148 rfl ?_
  refine g_VR (by assumption) 4 dX6_property_149 fl_X6_26 (by decide) rfl ?_
  refine H_hd h hn 7 dX6_property_152 fl_X6_128 (by decide) (by decide) (fun _ _ _ => rfl) ?_
  exact wa_ireturn dX6_property_155 ⟨Nat.le_refl _, Nat.le_refl _, ⟨_, rfl, rfl⟩, rfl, rfl, rfl⟩
theorem vr_property_0_11 {n : Nat} {S : SS} {g : Nat → Int32} {T : Int} (hn : 279 ≤ n) (h : HH S 34 g (fun _ => True)) (hg : GG T g) : AM yX6_property cX6_property 2 (some .int) [] 1 0 0 [.ref 0, .int 11] n (Hp S) (PI (g 10) n S) := by
  intro has
  change WA RX6 cX6_property 2 [] _ _ 0 0 0 [some (.ref 0), some (.int 11)] [] n _
  refine wa_iload_n dX6_property_0 rfl ?_
  refine wa_iconst (x := 0) dX6_property_1 (by decide) ?_
  refine wa_bipush (x := 11) dX6_property_2 (by decide) ?_
  refine c_SV dX6_property_4 (vr_range (by decide) (by decide)) lk_X6_62 rfl ?_
  refine wa_iload_n dX6_property_7 rfl ?_
  refine wa_tableOut 156 dX6_property_8 (by decide) rfl ?_
  refine wa_aload_n dX6_property_156 rfl ?_
  refine g_VR (by assumption) 4 dX6_property_157 fl_X6_26 (by decide) rfl ?_
  refine H_hd h hn 8 dX6_property_160 fl_X6_131 (by decide) (by decide) (fun _ _ _ => rfl) ?_
  exact wa_ireturn dX6_property_163 ⟨Nat.le_refl _, Nat.le_refl _, ⟨_, rfl, rfl⟩, rfl, rfl, rfl⟩
theorem vr_room_1 {n : Nat} {S : SS} {g : Nat → Int32} {T : Int} (hn : 279 ≤ n) (h : HH S 34 g (fun _ => True)) (hg : GG T g) (r what : Int32) (h1 : ¬ ((0 ≤ r ∧ r < g 0))) : AM yX6_room cX6_room 4 (some .int) [] 1 1 6 [.ref 0, .int r, .int what] n (Hp S) (PX ab_xI n S) := by
  intro has
  change WA RX6 cX6_room 4 [] _ _ 0 0 0 [some (.ref 0), some (.int r), some (.int what), none] [] n _
  refine wa_aload_n dX6_room_0 rfl ?_
  refine wa_iload_n dX6_room_1 rfl ?_
  exact c_VX dX6_room_2 (vr_roomAtX hn h h1) lk_X6_134 rfl (isO_VR _ _ _) rfl (ltS hn) (wt_out ⟨Nat.le_refl _, Nat.le_refl _, trivial, rfl, rfl, rfl⟩ (by decide))
theorem vr_room_2 {n : Nat} {S : SS} {g : Nat → Int32} {T : Int} (hn : 279 ≤ n) (h : HH S 34 g (fun _ => True)) (hg : GG T g) (r what : Int32) (h1 : ((0 ≤ r ∧ r < g 0))) (h2 : ¬ (inr what 0 10)) : AM yX6_room cX6_room 4 (some .int) [] 1 1 6 [.ref 0, .int r, .int what] n (Hp S) (PX ab_xA n S) := by
  intro has
  change WA RX6 cX6_room 4 [] _ _ 0 0 0 [some (.ref 0), some (.int r), some (.int what), none] [] n _
  refine wa_aload_n dX6_room_0 rfl ?_
  refine wa_iload_n dX6_room_1 rfl ?_
  refine c_VA dX6_room_2 (vr_roomAtR hn h h1) lk_X6_134 rfl (isO_VR _ _ _) rfl (ltS hn) ?_
  refine wa_astore_n dX6_room_5 rfl ?_
  refine wa_iload_n dX6_room_6 rfl ?_
  refine wa_iconst (x := 0) dX6_room_7 (by decide) ?_
  refine wa_bipush (x := 10) dX6_room_8 (by decide) ?_
  exact c_SX dX6_room_10 (vr_rangeX h2) lk_X6_62 rfl (wt_out ⟨Nat.le_refl _, Nat.le_refl _, trivial, rfl, rfl, rfl⟩ (by decide))
theorem zle_0 {x : Int32} (h0 : 0 ≤ x.toInt) (h : x ≤ 0) : x = 0 := by
  rw [Int32.le_iff_toInt_le, Int32.toInt_zero] at h
  exact Int32.toInt_inj.mp (by rw [Int32.toInt_zero]; omega)
theorem vr_room_0_0 {n i : Nat} {S : SS} {g : Nat → Int32} {T : Int} (hn : 279 ≤ n) (h : HH S 34 g (fun _ => True)) (hg : GG T g) (hT : T ≤ 300000) (hi : i < rn g) : AM yX6_room cX6_room 4 (some .int) [] 1 0 0 [.ref 0, .int (nI i), .int 0] n (Hp S) (PI (of g i 0) n S) := by
  intro has
  change WA RX6 cX6_room 4 [] _ _ 0 0 0 [some (.ref 0), some (.int (nI i)), some (.int 0), none] [] n _
  have hi6 : i < 6 := by have := hg.rn6; omega
  have hk := rk_l hg hi
  have hl := h.lvT hi
  refine wa_aload_n dX6_room_0 rfl ?_
  refine wa_iload_n dX6_room_1 rfl ?_
  refine c_VA dX6_room_2 (vr_roomAt hn h hi6 hk.2) lk_X6_134 rfl (isO_VR _ _ _) rfl (ltS hn) ?_
  refine wa_astore_n dX6_room_5 rfl ?_
  refine wa_iload_n dX6_room_6 rfl ?_
  refine wa_iconst (x := 0) dX6_room_7 (by decide) ?_
  refine wa_bipush (x := 10) dX6_room_8 (by decide) ?_
  refine c_SV dX6_room_10 (vr_range (by decide) (by decide)) lk_X6_62 rfl ?_
  refine wa_iload_n dX6_room_13 rfl ?_
  refine wa_tableIn 68 dX6_room_14 (by decide) (by decide) rfl rfl ?_
  refine wa_aload_n dX6_room_68 rfl ?_
  refine L_n hl hn 0 dX6_room_69 fl_X6_138 (by decide) (fun _ _ _ => rfl) ?_
  exact wa_ireturn dX6_room_72 ⟨Nat.le_refl _, Nat.le_refl _, ⟨_, rfl, rfl⟩, rfl, rfl, rfl⟩
theorem vr_room_0_1 {n i : Nat} {S : SS} {g : Nat → Int32} {T : Int} (hn : 279 ≤ n) (h : HH S 34 g (fun _ => True)) (hg : GG T g) (hT : T ≤ 300000) (hi : i < rn g) : AM yX6_room cX6_room 4 (some .int) [] 1 0 0 [.ref 0, .int (nI i), .int 1] n (Hp S) (PI (of g i 1) n S) := by
  intro has
  change WA RX6 cX6_room 4 [] _ _ 0 0 0 [some (.ref 0), some (.int (nI i)), some (.int 1), none] [] n _
  have hi6 : i < 6 := by have := hg.rn6; omega
  have hk := rk_l hg hi
  have hl := h.lvT hi
  refine wa_aload_n dX6_room_0 rfl ?_
  refine wa_iload_n dX6_room_1 rfl ?_
  refine c_VA dX6_room_2 (vr_roomAt hn h hi6 hk.2) lk_X6_134 rfl (isO_VR _ _ _) rfl (ltS hn) ?_
  refine wa_astore_n dX6_room_5 rfl ?_
  refine wa_iload_n dX6_room_6 rfl ?_
  refine wa_iconst (x := 0) dX6_room_7 (by decide) ?_
  refine wa_bipush (x := 10) dX6_room_8 (by decide) ?_
  refine c_SV dX6_room_10 (vr_range (by decide) (by decide)) lk_X6_62 rfl ?_
  refine wa_iload_n dX6_room_13 rfl ?_
  refine wa_tableIn 73 dX6_room_14 (by decide) (by decide) rfl rfl ?_
  refine wa_aload_n dX6_room_73 rfl ?_
  refine L_n hl hn 1 dX6_room_74 fl_X6_143 (by decide) (fun _ _ _ => rfl) ?_
  exact wa_ireturn dX6_room_77 ⟨Nat.le_refl _, Nat.le_refl _, ⟨_, rfl, rfl⟩, rfl, rfl, rfl⟩
theorem vr_room_0_2 {n i : Nat} {S : SS} {g : Nat → Int32} {T : Int} (hn : 279 ≤ n) (h : HH S 34 g (fun _ => True)) (hg : GG T g) (hT : T ≤ 300000) (hi : i < rn g) : AM yX6_room cX6_room 4 (some .int) [] 1 0 0 [.ref 0, .int (nI i), .int 2] n (Hp S) (PI (of g i 2) n S) := by
  intro has
  change WA RX6 cX6_room 4 [] _ _ 0 0 0 [some (.ref 0), some (.int (nI i)), some (.int 2), none] [] n _
  have hi6 : i < 6 := by have := hg.rn6; omega
  have hk := rk_l hg hi
  have hl := h.lvT hi
  refine wa_aload_n dX6_room_0 rfl ?_
  refine wa_iload_n dX6_room_1 rfl ?_
  refine c_VA dX6_room_2 (vr_roomAt hn h hi6 hk.2) lk_X6_134 rfl (isO_VR _ _ _) rfl (ltS hn) ?_
  refine wa_astore_n dX6_room_5 rfl ?_
  refine wa_iload_n dX6_room_6 rfl ?_
  refine wa_iconst (x := 0) dX6_room_7 (by decide) ?_
  refine wa_bipush (x := 10) dX6_room_8 (by decide) ?_
  refine c_SV dX6_room_10 (vr_range (by decide) (by decide)) lk_X6_62 rfl ?_
  refine wa_iload_n dX6_room_13 rfl ?_
  refine wa_tableIn 78 dX6_room_14 (by decide) (by decide) rfl rfl ?_
  refine wa_aload_n dX6_room_78 rfl ?_
  refine L_n hl hn 2 dX6_room_79 fl_X6_146 (by decide) (fun _ _ _ => rfl) ?_
  exact wa_ireturn dX6_room_82 ⟨Nat.le_refl _, Nat.le_refl _, ⟨_, rfl, rfl⟩, rfl, rfl, rfl⟩
theorem vr_room_0_3 {n i : Nat} {S : SS} {g : Nat → Int32} {T : Int} (hn : 279 ≤ n) (h : HH S 34 g (fun _ => True)) (hg : GG T g) (hT : T ≤ 300000) (hi : i < rn g) : AM yX6_room cX6_room 4 (some .int) [] 1 0 0 [.ref 0, .int (nI i), .int 3] n (Hp S) (PI (of g i 3) n S) := by
  intro has
  change WA RX6 cX6_room 4 [] _ _ 0 0 0 [some (.ref 0), some (.int (nI i)), some (.int 3), none] [] n _
  have hi6 : i < 6 := by have := hg.rn6; omega
  have hk := rk_l hg hi
  have hl := h.lvT hi
  refine wa_aload_n dX6_room_0 rfl ?_
  refine wa_iload_n dX6_room_1 rfl ?_
  refine c_VA dX6_room_2 (vr_roomAt hn h hi6 hk.2) lk_X6_134 rfl (isO_VR _ _ _) rfl (ltS hn) ?_
  refine wa_astore_n dX6_room_5 rfl ?_
  refine wa_iload_n dX6_room_6 rfl ?_
  refine wa_iconst (x := 0) dX6_room_7 (by decide) ?_
  refine wa_bipush (x := 10) dX6_room_8 (by decide) ?_
  refine c_SV dX6_room_10 (vr_range (by decide) (by decide)) lk_X6_62 rfl ?_
  refine wa_iload_n dX6_room_13 rfl ?_
  refine wa_tableIn 83 dX6_room_14 (by decide) (by decide) rfl rfl ?_
  refine wa_aload_n dX6_room_83 rfl ?_
  refine L_n hl hn 3 dX6_room_84 fl_X6_149 (by decide) (fun _ _ _ => rfl) ?_
  exact wa_ireturn dX6_room_87 ⟨Nat.le_refl _, Nat.le_refl _, ⟨_, rfl, rfl⟩, rfl, rfl, rfl⟩
theorem vr_room_0_4 {n i : Nat} {S : SS} {g : Nat → Int32} {T : Int} (hn : 279 ≤ n) (h : HH S 34 g (fun _ => True)) (hg : GG T g) (hT : T ≤ 300000) (hi : i < rn g) : AM yX6_room cX6_room 4 (some .int) [] 1 0 0 [.ref 0, .int (nI i), .int 4] n (Hp S) (PI (of g i 4) n S) := by
  intro has
  change WA RX6 cX6_room 4 [] _ _ 0 0 0 [some (.ref 0), some (.int (nI i)), some (.int 4), none] [] n _
  have hi6 : i < 6 := by have := hg.rn6; omega
  have hk := rk_l hg hi
  have hl := h.lvT hi
  refine wa_aload_n dX6_room_0 rfl ?_
  refine wa_iload_n dX6_room_1 rfl ?_
  refine c_VA dX6_room_2 (vr_roomAt hn h hi6 hk.2) lk_X6_134 rfl (isO_VR _ _ _) rfl (ltS hn) ?_
  refine wa_astore_n dX6_room_5 rfl ?_
  refine wa_iload_n dX6_room_6 rfl ?_
  refine wa_iconst (x := 0) dX6_room_7 (by decide) ?_
  refine wa_bipush (x := 10) dX6_room_8 (by decide) ?_
  refine c_SV dX6_room_10 (vr_range (by decide) (by decide)) lk_X6_62 rfl ?_
  refine wa_iload_n dX6_room_13 rfl ?_
  refine wa_tableIn 88 dX6_room_14 (by decide) (by decide) rfl rfl ?_
  refine wa_aload_n dX6_room_88 rfl ?_
  refine L_n hl hn 4 dX6_room_89 fl_X6_152 (by decide) (fun _ _ _ => rfl) ?_
  exact wa_ireturn dX6_room_92 ⟨Nat.le_refl _, Nat.le_refl _, ⟨_, rfl, rfl⟩, rfl, rfl, rfl⟩
theorem vr_room_0_5 {n i : Nat} {S : SS} {g : Nat → Int32} {T : Int} (hn : 279 ≤ n) (h : HH S 34 g (fun _ => True)) (hg : GG T g) (hT : T ≤ 300000) (hi : i < rn g) : AM yX6_room cX6_room 4 (some .int) [] 1 0 0 [.ref 0, .int (nI i), .int 5] n (Hp S) (PI (of g i 5) n S) := by
  intro has
  change WA RX6 cX6_room 4 [] _ _ 0 0 0 [some (.ref 0), some (.int (nI i)), some (.int 5), none] [] n _
  have hi6 : i < 6 := by have := hg.rn6; omega
  have hk := rk_l hg hi
  have hl := h.lvT hi
  refine wa_aload_n dX6_room_0 rfl ?_
  refine wa_iload_n dX6_room_1 rfl ?_
  refine c_VA dX6_room_2 (vr_roomAt hn h hi6 hk.2) lk_X6_134 rfl (isO_VR _ _ _) rfl (ltS hn) ?_
  refine wa_astore_n dX6_room_5 rfl ?_
  refine wa_iload_n dX6_room_6 rfl ?_
  refine wa_iconst (x := 0) dX6_room_7 (by decide) ?_
  refine wa_bipush (x := 10) dX6_room_8 (by decide) ?_
  refine c_SV dX6_room_10 (vr_range (by decide) (by decide)) lk_X6_62 rfl ?_
  refine wa_iload_n dX6_room_13 rfl ?_
  refine wa_tableIn 93 dX6_room_14 (by decide) (by decide) rfl rfl ?_
  refine wa_aload_n dX6_room_93 rfl ?_
  refine L_n hl hn 5 dX6_room_94 fl_X6_155 (by decide) (fun _ _ _ => rfl) ?_
  refine wa_if_eq 104 dX6_room_97 rfl (fun c97 => ?_) (fun c97 => ?_)
  · refine wa_iconst (x := 0) dX6_room_104 (by decide) ?_
    first
    | exact wa_ireturn dX6_room_105 ⟨Nat.le_refl _, Nat.le_refl _, ⟨_, rfl, rfl⟩, (ri c97.symm), rfl, rfl⟩
    | exact wa_ireturn dX6_room_105 ⟨Nat.le_refl _, Nat.le_refl _, ⟨_, rfl, rfl⟩, (ri ((hg.opn hi).resolve_left c97).symm), rfl, rfl⟩
  · refine wa_iconst (x := 1) dX6_room_100 (by decide) ?_
    refine wa_goto 105 dX6_room_101 rfl ?_
    first
    | exact wa_ireturn dX6_room_105 ⟨Nat.le_refl _, Nat.le_refl _, ⟨_, rfl, rfl⟩, (ri c97.symm), rfl, rfl⟩
    | exact wa_ireturn dX6_room_105 ⟨Nat.le_refl _, Nat.le_refl _, ⟨_, rfl, rfl⟩, (ri ((hg.opn hi).resolve_left c97).symm), rfl, rfl⟩
theorem vr_room_0_6 {n i : Nat} {S : SS} {g : Nat → Int32} {T : Int} (hn : 279 ≤ n) (h : HH S 34 g (fun _ => True)) (hg : GG T g) (hT : T ≤ 300000) (hi : i < rn g) : AM yX6_room cX6_room 4 (some .int) [] 1 0 0 [.ref 0, .int (nI i), .int 6] n (Hp S) (PI (of g i 6) n S) := by
  intro has
  change WA RX6 cX6_room 4 [] _ _ 0 0 0 [some (.ref 0), some (.int (nI i)), some (.int 6), none] [] n _
  have hi6 : i < 6 := by have := hg.rn6; omega
  have hk := rk_l hg hi
  have hl := h.lvT hi
  refine wa_aload_n dX6_room_0 rfl ?_
  refine wa_iload_n dX6_room_1 rfl ?_
  refine c_VA dX6_room_2 (vr_roomAt hn h hi6 hk.2) lk_X6_134 rfl (isO_VR _ _ _) rfl (ltS hn) ?_
  refine wa_astore_n dX6_room_5 rfl ?_
  refine wa_iload_n dX6_room_6 rfl ?_
  refine wa_iconst (x := 0) dX6_room_7 (by decide) ?_
  refine wa_bipush (x := 10) dX6_room_8 (by decide) ?_
  refine c_SV dX6_room_10 (vr_range (by decide) (by decide)) lk_X6_62 rfl ?_
  refine wa_iload_n dX6_room_13 rfl ?_
  refine wa_tableIn 106 dX6_room_14 (by decide) (by decide) rfl rfl ?_
  refine wa_aload_n dX6_room_106 rfl ?_
  refine L_n hl hn 6 dX6_room_107 fl_X6_159 (by decide) (fun _ _ _ => rfl) ?_
  refine wa_if_eq 117 dX6_room_110 rfl (fun c110 => ?_) (fun c110 => ?_)
  · refine wa_iconst (x := 0) dX6_room_117 (by decide) ?_
    first
    | exact wa_ireturn dX6_room_118 ⟨Nat.le_refl _, Nat.le_refl _, ⟨_, rfl, rfl⟩, (ri c110.symm), rfl, rfl⟩
    | exact wa_ireturn dX6_room_118 ⟨Nat.le_refl _, Nat.le_refl _, ⟨_, rfl, rfl⟩, (ri ((hg.pre hi).resolve_left c110).symm), rfl, rfl⟩
  · refine wa_iconst (x := 1) dX6_room_113 (by decide) ?_
    refine wa_goto 118 dX6_room_114 rfl ?_
    first
    | exact wa_ireturn dX6_room_118 ⟨Nat.le_refl _, Nat.le_refl _, ⟨_, rfl, rfl⟩, (ri c110.symm), rfl, rfl⟩
    | exact wa_ireturn dX6_room_118 ⟨Nat.le_refl _, Nat.le_refl _, ⟨_, rfl, rfl⟩, (ri ((hg.pre hi).resolve_left c110).symm), rfl, rfl⟩
theorem vr_room_0_7 {n i : Nat} {S : SS} {g : Nat → Int32} {T : Int} (hn : 279 ≤ n) (h : HH S 34 g (fun _ => True)) (hg : GG T g) (hT : T ≤ 300000) (hi : i < rn g) : AM yX6_room cX6_room 4 (some .int) [] 1 0 0 [.ref 0, .int (nI i), .int 7] n (Hp S) (PI (of g i 7) n S) := by
  intro has
  change WA RX6 cX6_room 4 [] _ _ 0 0 0 [some (.ref 0), some (.int (nI i)), some (.int 7), none] [] n _
  have hi6 : i < 6 := by have := hg.rn6; omega
  have hk := rk_l hg hi
  have hl := h.lvT hi
  refine wa_aload_n dX6_room_0 rfl ?_
  refine wa_iload_n dX6_room_1 rfl ?_
  refine c_VA dX6_room_2 (vr_roomAt hn h hi6 hk.2) lk_X6_134 rfl (isO_VR _ _ _) rfl (ltS hn) ?_
  refine wa_astore_n dX6_room_5 rfl ?_
  refine wa_iload_n dX6_room_6 rfl ?_
  refine wa_iconst (x := 0) dX6_room_7 (by decide) ?_
  refine wa_bipush (x := 10) dX6_room_8 (by decide) ?_
  refine c_SV dX6_room_10 (vr_range (by decide) (by decide)) lk_X6_62 rfl ?_
  refine wa_iload_n dX6_room_13 rfl ?_
  refine wa_tableIn 119 dX6_room_14 (by decide) (by decide) rfl rfl ?_
  refine wa_aload_n dX6_room_119 rfl ?_
  refine L_n hl hn 7 dX6_room_120 fl_X6_162 (by decide) (fun _ _ _ => rfl) ?_
  exact wa_ireturn dX6_room_123 ⟨Nat.le_refl _, Nat.le_refl _, ⟨_, rfl, rfl⟩, rfl, rfl, rfl⟩
theorem vr_room_0_8 {n i : Nat} {S : SS} {g : Nat → Int32} {T : Int} (hn : 279 ≤ n) (h : HH S 34 g (fun _ => True)) (hg : GG T g) (hT : T ≤ 300000) (hi : i < rn g) : AM yX6_room cX6_room 4 (some .int) [] 1 0 0 [.ref 0, .int (nI i), .int 8] n (Hp S) (PI (if of g i 9 = 0 then -1 else of g i 8) n S) := by
  intro has
  change WA RX6 cX6_room 4 [] _ _ 0 0 0 [some (.ref 0), some (.int (nI i)), some (.int 8), none] [] n _
  have hi6 : i < 6 := by have := hg.rn6; omega
  have hk := rk_l hg hi
  have hl := h.lvT hi
  refine wa_aload_n dX6_room_0 rfl ?_
  refine wa_iload_n dX6_room_1 rfl ?_
  refine c_VA dX6_room_2 (vr_roomAt hn h hi6 hk.2) lk_X6_134 rfl (isO_VR _ _ _) rfl (ltS hn) ?_
  refine wa_astore_n dX6_room_5 rfl ?_
  refine wa_iload_n dX6_room_6 rfl ?_
  refine wa_iconst (x := 0) dX6_room_7 (by decide) ?_
  refine wa_bipush (x := 10) dX6_room_8 (by decide) ?_
  refine c_SV dX6_room_10 (vr_range (by decide) (by decide)) lk_X6_62 rfl ?_
  refine wa_iload_n dX6_room_13 rfl ?_
  refine wa_tableIn 124 dX6_room_14 (by decide) (by decide) rfl rfl ?_
  refine wa_aload_n dX6_room_124 rfl ?_
  refine L_n hl hn 9 dX6_room_125 fl_X6_165 (by decide) (fun _ _ _ => rfl) ?_
  refine wa_if_le 138 dX6_room_128 rfl (fun c128 => ?_) (fun c128 => ?_)
  · refine wa_iconst (x := (-1)) dX6_room_138 (by decide) ?_
    have q9 := (hg.2.2.2.2 i hi).2.2.2.2.1.1
    first
    | exact wa_ireturn dX6_room_139 ⟨Nat.le_refl _, Nat.le_refl _, ⟨_, rfl, rfl⟩, (ri (by rw [if_pos (zle_0 q9 c128)])), rfl, rfl⟩
    | exact wa_ireturn dX6_room_139 ⟨Nat.le_refl _, Nat.le_refl _, ⟨_, rfl, rfl⟩, (ri (by rw [if_neg (fun z => c128 (by rw [z]; exact Int32.le_refl _))])), rfl, rfl⟩
  · refine wa_aload_n dX6_room_131 rfl ?_
    refine L_n hl hn 8 dX6_room_132 fl_X6_168 (by decide) (fun _ _ _ => rfl) ?_
    refine wa_goto 139 dX6_room_135 rfl ?_
    have q9 := (hg.2.2.2.2 i hi).2.2.2.2.1.1
    first
    | exact wa_ireturn dX6_room_139 ⟨Nat.le_refl _, Nat.le_refl _, ⟨_, rfl, rfl⟩, (ri (by rw [if_pos (zle_0 q9 c128)])), rfl, rfl⟩
    | exact wa_ireturn dX6_room_139 ⟨Nat.le_refl _, Nat.le_refl _, ⟨_, rfl, rfl⟩, (ri (by rw [if_neg (fun z => c128 (by rw [z]; exact Int32.le_refl _))])), rfl, rfl⟩
theorem vr_room_0_9 {n i : Nat} {S : SS} {g : Nat → Int32} {T : Int} (hn : 279 ≤ n) (h : HH S 34 g (fun _ => True)) (hg : GG T g) (hT : T ≤ 300000) (hi : i < rn g) : AM yX6_room cX6_room 4 (some .int) [] 1 0 0 [.ref 0, .int (nI i), .int 9] n (Hp S) (PI (of g i 9) n S) := by
  intro has
  change WA RX6 cX6_room 4 [] _ _ 0 0 0 [some (.ref 0), some (.int (nI i)), some (.int 9), none] [] n _
  have hi6 : i < 6 := by have := hg.rn6; omega
  have hk := rk_l hg hi
  have hl := h.lvT hi
  refine wa_aload_n dX6_room_0 rfl ?_
  refine wa_iload_n dX6_room_1 rfl ?_
  refine c_VA dX6_room_2 (vr_roomAt hn h hi6 hk.2) lk_X6_134 rfl (isO_VR _ _ _) rfl (ltS hn) ?_
  refine wa_astore_n dX6_room_5 rfl ?_
  refine wa_iload_n dX6_room_6 rfl ?_
  refine wa_iconst (x := 0) dX6_room_7 (by decide) ?_
  refine wa_bipush (x := 10) dX6_room_8 (by decide) ?_
  refine c_SV dX6_room_10 (vr_range (by decide) (by decide)) lk_X6_62 rfl ?_
  refine wa_iload_n dX6_room_13 rfl ?_
  refine wa_tableIn 140 dX6_room_14 (by decide) (by decide) rfl rfl ?_
  refine wa_aload_n dX6_room_140 rfl ?_
  refine L_n hl hn 9 dX6_room_141 fl_X6_165 (by decide) (fun _ _ _ => rfl) ?_
  exact wa_ireturn dX6_room_144 ⟨Nat.le_refl _, Nat.le_refl _, ⟨_, rfl, rfl⟩, rfl, rfl, rfl⟩
theorem vr_room_0_10 {n i : Nat} {S : SS} {g : Nat → Int32} {T : Int} (hn : 279 ≤ n) (h : HH S 34 g (fun _ => True)) (hg : GG T g) (hT : T ≤ 300000) (hi : i < rn g) : AM yX6_room cX6_room 4 (some .int) [] 1 0 0 [.ref 0, .int (nI i), .int 10] n (Hp S) (PI (of g i 10) n S) := by
  intro has
  change WA RX6 cX6_room 4 [] _ _ 0 0 0 [some (.ref 0), some (.int (nI i)), some (.int 10), none] [] n _
  have hi6 : i < 6 := by have := hg.rn6; omega
  have hk := rk_l hg hi
  have hl := h.lvT hi
  refine wa_aload_n dX6_room_0 rfl ?_
  refine wa_iload_n dX6_room_1 rfl ?_
  refine c_VA dX6_room_2 (vr_roomAt hn h hi6 hk.2) lk_X6_134 rfl (isO_VR _ _ _) rfl (ltS hn) ?_
  refine wa_astore_n dX6_room_5 rfl ?_
  refine wa_iload_n dX6_room_6 rfl ?_
  refine wa_iconst (x := 0) dX6_room_7 (by decide) ?_
  refine wa_bipush (x := 10) dX6_room_8 (by decide) ?_
  refine c_SV dX6_room_10 (vr_range (by decide) (by decide)) lk_X6_62 rfl ?_
  refine wa_iload_n dX6_room_13 rfl ?_
  refine wa_tableOut 145 dX6_room_14 (by decide) rfl ?_
  refine wa_aload_n dX6_room_145 rfl ?_
  refine L_n hl hn 10 dX6_room_146 fl_X6_171 (by decide) (fun _ _ _ => rfl) ?_
  exact wa_ireturn dX6_room_149 ⟨Nat.le_refl _, Nat.le_refl _, ⟨_, rfl, rfl⟩, rfl, rfl, rfl⟩
theorem vr_exerciseIn_1 {n : Nat} {S : SS} {g : Nat → Int32} {T : Int} (hn : 279 ≤ n) (h : HH S 34 g (fun _ => True)) (hg : GG T g) (r : Int32) (h1 : ¬ ((0 ≤ r ∧ r < g 0))) : AM yX6_exerciseIn cX6_exerciseIn 2 (some .int) [] 1 1 6 [.ref 0, .int r] n (Hp S) (PX ab_xI n S) := by
  intro has
  change WA RX6 cX6_exerciseIn 2 [] _ _ 0 0 0 [some (.ref 0), some (.int r)] [] n _
  refine wa_aload_n dX6_exerciseIn_0 rfl ?_
  refine wa_iload_n dX6_exerciseIn_1 rfl ?_
  exact c_VX dX6_exerciseIn_2 (vr_roomAtX hn h h1) lk_X6_134 rfl (isO_VR _ _ _) rfl (ltS hn) (wt_out ⟨Nat.le_refl _, Nat.le_refl _, trivial, rfl, rfl, rfl⟩ (by decide))
theorem vr_exerciseIn_0 {n i : Nat} {S : SS} {g : Nat → Int32} {T : Int} (hn : 279 ≤ n) (h : HH S 34 g (fun _ => True)) (hg : GG T g) (hT : T ≤ 300000) (hi : i < rn g) : AM yX6_exerciseIn cX6_exerciseIn 2 (some .int) [] 1 0 0 [.ref 0, .int (nI i)] n (Hp S) (PI (i_fmod (g 10 + nI i - g 1 - 1) 336 + 1) n S) := by
  intro has
  change WA RX6 cX6_exerciseIn 2 [] _ _ 0 0 0 [some (.ref 0), some (.int (nI i))] [] n _
  have hi6 : i < 6 := by have := hg.rn6; omega
  have hk := rk_l hg hi
  have hl := h.lvT hi
  refine wa_aload_n dX6_exerciseIn_0 rfl ?_
  refine wa_iload_n dX6_exerciseIn_1 rfl ?_
  refine c_VA dX6_exerciseIn_2 (vr_roomAt hn h hi6 hk.2) lk_X6_134 rfl (isO_VR _ _ _) rfl (ltS hn) ?_
  refine wa_pop dX6_exerciseIn_5 rfl ?_
  refine wa_aload_n dX6_exerciseIn_6 rfl ?_
  refine g_VR (by assumption) 4 dX6_exerciseIn_7 fl_X6_26 (by decide) rfl ?_
  refine H_hd h hn 8 dX6_exerciseIn_10 fl_X6_131 (by decide) (by decide) (fun _ _ _ => rfl) ?_
  refine wa_iload_n dX6_exerciseIn_13 rfl ?_
  refine wa_iadd dX6_exerciseIn_14 ?_
  refine wa_aload_n dX6_exerciseIn_15 rfl ?_
  refine g_VR (by assumption) 4 dX6_exerciseIn_16 fl_X6_26 (by decide) rfl ?_
  refine H_hd h hn 0 dX6_exerciseIn_19 fl_X6_100 (by decide) (by decide) (fun _ _ _ => rfl) ?_
  refine wa_isub dX6_exerciseIn_22 ?_
  refine wa_iconst (x := 1) dX6_exerciseIn_23 (by decide) ?_
  refine wa_isub dX6_exerciseIn_24 ?_
  refine wa_sipush (x := 336) dX6_exerciseIn_25 (by decide) ?_
  refine c_SI dX6_exerciseIn_28 (am_fmod2 _ 336 (by decide)) lk_X6_238 rfl ?_
  refine wa_iconst (x := 1) dX6_exerciseIn_31 (by decide) ?_
  refine wa_iadd dX6_exerciseIn_32 ?_
  exact wa_ireturn dX6_exerciseIn_33 ⟨Nat.le_refl _, Nat.le_refl _, ⟨_, rfl, rfl⟩, rfl, rfl, rfl⟩
def lv (f : Nat → Int32) (o : Option Nat) : Int32 := match o with
  | none => 0
  | some b => f b
theorem lpv_coldest {Q : ab_Q} {n c : Nat} {S : SS} {g : Nat → Int32} {T : Int} (hn : 279 ≤ n) (h : HH S 34 g (fun _ => True)) (hg : GG T g) (hT : T ≤ 300000) (hc : c = rn g) (h0 : g 0 = nI c) (hQ : Q (.inl (some (.int (ov (sel (fun a b => of g a 0 < of g b 0) c))))) 0 0 n (Hp S)) :
    ∀ (r k : Nat) (o : Option Nat) (l4 : Option Value), k + r = c → sel (fun a b => of g a 0 < of g b 0) k = o → WA RX6 cX6_coldest 5 [] (ab_rm 0 0 0) Q 0 0 6 [some (.ref 0), some (.int (ov o)), some (.int (lv (fun X => of g X 0) o)), some (.int (nI k)), l4] [] n (Hp S) := by
  have h6 := hg.rn6
  intro r
  induction r with
  | zero =>
    intro k o l4 hk ho
    have hk' : c = k := by omega
    rw [hk'] at hQ h0 hc
    subst ho
    refine wa_iload_n dX6_coldest_6 rfl ?_
    refine wa_aload_n dX6_coldest_7 rfl ?_
    refine g_VR (by assumption) 4 dX6_coldest_8 fl_X6_26 (by decide) rfl ?_
    refine H_hd h hn 9 dX6_coldest_11 fl_X6_89 (by decide) (by decide) (fun _ _ _ => rfl) ?_
    rw [show g (hm 9) = nI k from h0]
    refine wa_icmp_ge 53 dX6_coldest_14 rfl (fun c14 => ?_) (fun c14 => absurd (nI_le (Nat.le_refl _) (by omega)) c14)
    refine wa_iload_n dX6_coldest_53 rfl ?_
    exact wa_ireturn dX6_coldest_54 hQ
  | succ r ih =>
    intro k o l4 hk ho
    have hi : k < rn g := by omega
    have hi6 : k < 6 := by omega
    have hl := h.lvT hi
    cases o with
    | none =>
      show WA RX6 cX6_coldest 5 [] (ab_rm 0 0 0) Q 0 0 6 [some (.ref 0), some (.int (-1)), some (.int 0), some (.int (nI k)), l4] [] n (Hp S)
      refine wa_iload_n dX6_coldest_6 rfl ?_
      refine wa_aload_n dX6_coldest_7 rfl ?_
      refine g_VR (by assumption) 4 dX6_coldest_8 fl_X6_26 (by decide) rfl ?_
      refine H_hd h hn 9 dX6_coldest_11 fl_X6_89 (by decide) (by decide) (fun _ _ _ => rfl) ?_
      rw [show g (hm 9) = nI c from h0]
      refine wa_icmp_ge 53 dX6_coldest_14 rfl (fun c14 => absurd c14 (nI_ge (a := k) (b := c) (by omega) (by omega))) (fun c14 => ?_)
      refine wa_aload_n dX6_coldest_17 rfl ?_
      refine g_VR (by assumption) 4 dX6_coldest_18 fl_X6_26 (by decide) rfl ?_
      refine g_HO h.H hn 10 dX6_coldest_21 fl_X6_231 (by decide) rfl ?_
      refine wa_iload_n dX6_coldest_24 rfl ?_
      refine L_room h.H hn (ix_nI (by omega)) hi6 dX6_coldest_25 ?_
      refine L_n hl hn 0 dX6_coldest_26 fl_X6_138 (by decide) (fun _ _ _ => rfl) ?_
      refine wa_istore dX6_coldest_29 rfl ?_
      refine wa_iload_n dX6_coldest_31 rfl ?_
      refine wa_iconst (x := (-1)) dX6_coldest_32 (by decide) ?_
      refine wa_icmp_eq 42 dX6_coldest_33 rfl (fun c33 => ?_) (fun c33 => absurd rfl c33)
      refine wa_iload_n dX6_coldest_42 rfl ?_
      refine wa_istore_n dX6_coldest_43 rfl ?_
      refine wa_iload dX6_coldest_44 rfl ?_
      refine wa_istore_n dX6_coldest_46 rfl ?_
      refine wa_iinc (y := 1) dX6_coldest_47 rfl (by decide) rfl ?_
      refine wa_goto 6 dX6_coldest_50 rfl ?_
      rw [nI_1 k]
      exact ih (k + 1) (some k) _ (by omega) (sel_n ho)
    | some b =>
      have hb : b < 6 := by have := sel_lt _ _ _ ho; omega
      have hbr : b < rn g := by have := sel_lt _ _ _ ho; omega
      show WA RX6 cX6_coldest 5 [] (ab_rm 0 0 0) Q 0 0 6 [some (.ref 0), some (.int (nI b)), some (.int (of g b 0)), some (.int (nI k)), l4] [] n (Hp S)
      refine wa_iload_n dX6_coldest_6 rfl ?_
      refine wa_aload_n dX6_coldest_7 rfl ?_
      refine g_VR (by assumption) 4 dX6_coldest_8 fl_X6_26 (by decide) rfl ?_
      refine H_hd h hn 9 dX6_coldest_11 fl_X6_89 (by decide) (by decide) (fun _ _ _ => rfl) ?_
      rw [show g (hm 9) = nI c from h0]
      refine wa_icmp_ge 53 dX6_coldest_14 rfl (fun c14 => absurd c14 (nI_ge (a := k) (b := c) (by omega) (by omega))) (fun c14 => ?_)
      refine wa_aload_n dX6_coldest_17 rfl ?_
      refine g_VR (by assumption) 4 dX6_coldest_18 fl_X6_26 (by decide) rfl ?_
      refine g_HO h.H hn 10 dX6_coldest_21 fl_X6_231 (by decide) rfl ?_
      refine wa_iload_n dX6_coldest_24 rfl ?_
      refine L_room h.H hn (ix_nI (by omega)) hi6 dX6_coldest_25 ?_
      refine L_n hl hn 0 dX6_coldest_26 fl_X6_138 (by decide) (fun _ _ _ => rfl) ?_
      refine wa_istore dX6_coldest_29 rfl ?_
      refine wa_iload_n dX6_coldest_31 rfl ?_
      refine wa_iconst (x := (-1)) dX6_coldest_32 (by decide) ?_
      refine wa_icmp_eq 42 dX6_coldest_33 rfl (fun c33 => absurd c33 (nI_m1 (by omega))) (fun c33 => ?_)
      refine wa_iload dX6_coldest_36 rfl ?_
      refine wa_iload_n dX6_coldest_38 rfl ?_
      refine wa_icmp_ge 47 dX6_coldest_39 rfl (fun c39 => ?_) (fun c39 => ?_)
      · refine wa_iinc (y := 1) dX6_coldest_47 rfl (by decide) rfl ?_
        refine wa_goto 6 dX6_coldest_50 rfl ?_
        first
        | (rw [nI_1 k]
           exact ih (k + 1) (some k) _ (by omega) ((sel_s ho).trans (if_pos (Int32.not_le.mp c39))))
        | (rw [nI_1 k]
           exact ih (k + 1) (some b) _ (by omega) ((sel_s ho).trans (if_neg (Int32.not_lt.mpr c39))))
      · refine wa_iload_n dX6_coldest_42 rfl ?_
        refine wa_istore_n dX6_coldest_43 rfl ?_
        refine wa_iload dX6_coldest_44 rfl ?_
        refine wa_istore_n dX6_coldest_46 rfl ?_
        refine wa_iinc (y := 1) dX6_coldest_47 rfl (by decide) rfl ?_
        refine wa_goto 6 dX6_coldest_50 rfl ?_
        first
        | (rw [nI_1 k]
           exact ih (k + 1) (some k) _ (by omega) ((sel_s ho).trans (if_pos (Int32.not_le.mp c39))))
        | (rw [nI_1 k]
           exact ih (k + 1) (some b) _ (by omega) ((sel_s ho).trans (if_neg (Int32.not_lt.mpr c39))))
theorem vr_coldest {n : Nat} {S : SS} {g : Nat → Int32} {T : Int} (hn : 279 ≤ n) (h : HH S 34 g (fun _ => True)) (hg : GG T g) (hT : T ≤ 300000) : AM yX6_coldest cX6_coldest 5 (some .int) [] 0 0 0 [.ref 0] n (Hp S) (PI (ov (sel (fun a b => of g a 0 < of g b 0) (rn g))) n S) := by
  intro has
  change WA RX6 cX6_coldest 5 [] _ _ 0 0 0 [some (.ref 0), none, none, none, none] [] n _
  refine wa_iconst (x := (-1)) dX6_coldest_0 (by decide) ?_
  refine wa_istore_n dX6_coldest_1 rfl ?_
  refine wa_iconst (x := 0) dX6_coldest_2 (by decide) ?_
  refine wa_istore_n dX6_coldest_3 rfl ?_
  refine wa_iconst (x := 0) dX6_coldest_4 (by decide) ?_
  refine wa_istore_n dX6_coldest_5 rfl ?_
  exact lpv_coldest hn h hg hT rfl hg.e0 ⟨Nat.le_refl _, Nat.le_refl _, ⟨_, rfl, rfl⟩, rfl, rfl, rfl⟩ (rn g) 0 none none (Nat.zero_add _) rfl
theorem lpv_weakest {Q : ab_Q} {n c : Nat} {S : SS} {g : Nat → Int32} {T : Int} (hn : 279 ≤ n) (h : HH S 34 g (fun _ => True)) (hg : GG T g) (hT : T ≤ 300000) (hc : c = rn g) (h0 : g 0 = nI c) (hQ : Q (.inl (some (.int (ov (sel (fun a b => of g a 2 < of g b 2) c))))) 0 0 n (Hp S)) :
    ∀ (r k : Nat) (o : Option Nat) (l4 : Option Value), k + r = c → sel (fun a b => of g a 2 < of g b 2) k = o → WA RX6 cX6_weakest 5 [] (ab_rm 0 0 0) Q 0 0 6 [some (.ref 0), some (.int (ov o)), some (.int (lv (fun X => of g X 2) o)), some (.int (nI k)), l4] [] n (Hp S) := by
  have h6 := hg.rn6
  intro r
  induction r with
  | zero =>
    intro k o l4 hk ho
    have hk' : c = k := by omega
    rw [hk'] at hQ h0 hc
    subst ho
    refine wa_iload_n dX6_weakest_6 rfl ?_
    refine wa_aload_n dX6_weakest_7 rfl ?_
    refine g_VR (by assumption) 4 dX6_weakest_8 fl_X6_26 (by decide) rfl ?_
    refine H_hd h hn 9 dX6_weakest_11 fl_X6_89 (by decide) (by decide) (fun _ _ _ => rfl) ?_
    rw [show g (hm 9) = nI k from h0]
    refine wa_icmp_ge 53 dX6_weakest_14 rfl (fun c14 => ?_) (fun c14 => absurd (nI_le (Nat.le_refl _) (by omega)) c14)
    refine wa_iload_n dX6_weakest_53 rfl ?_
    exact wa_ireturn dX6_weakest_54 hQ
  | succ r ih =>
    intro k o l4 hk ho
    have hi : k < rn g := by omega
    have hi6 : k < 6 := by omega
    have hl := h.lvT hi
    cases o with
    | none =>
      show WA RX6 cX6_weakest 5 [] (ab_rm 0 0 0) Q 0 0 6 [some (.ref 0), some (.int (-1)), some (.int 0), some (.int (nI k)), l4] [] n (Hp S)
      refine wa_iload_n dX6_weakest_6 rfl ?_
      refine wa_aload_n dX6_weakest_7 rfl ?_
      refine g_VR (by assumption) 4 dX6_weakest_8 fl_X6_26 (by decide) rfl ?_
      refine H_hd h hn 9 dX6_weakest_11 fl_X6_89 (by decide) (by decide) (fun _ _ _ => rfl) ?_
      rw [show g (hm 9) = nI c from h0]
      refine wa_icmp_ge 53 dX6_weakest_14 rfl (fun c14 => absurd c14 (nI_ge (a := k) (b := c) (by omega) (by omega))) (fun c14 => ?_)
      refine wa_aload_n dX6_weakest_17 rfl ?_
      refine g_VR (by assumption) 4 dX6_weakest_18 fl_X6_26 (by decide) rfl ?_
      refine g_HO h.H hn 10 dX6_weakest_21 fl_X6_231 (by decide) rfl ?_
      refine wa_iload_n dX6_weakest_24 rfl ?_
      refine L_room h.H hn (ix_nI (by omega)) hi6 dX6_weakest_25 ?_
      refine L_n hl hn 2 dX6_weakest_26 fl_X6_146 (by decide) (fun _ _ _ => rfl) ?_
      refine wa_istore dX6_weakest_29 rfl ?_
      refine wa_iload_n dX6_weakest_31 rfl ?_
      refine wa_iconst (x := (-1)) dX6_weakest_32 (by decide) ?_
      refine wa_icmp_eq 42 dX6_weakest_33 rfl (fun c33 => ?_) (fun c33 => absurd rfl c33)
      refine wa_iload_n dX6_weakest_42 rfl ?_
      refine wa_istore_n dX6_weakest_43 rfl ?_
      refine wa_iload dX6_weakest_44 rfl ?_
      refine wa_istore_n dX6_weakest_46 rfl ?_
      refine wa_iinc (y := 1) dX6_weakest_47 rfl (by decide) rfl ?_
      refine wa_goto 6 dX6_weakest_50 rfl ?_
      rw [nI_1 k]
      exact ih (k + 1) (some k) _ (by omega) (sel_n ho)
    | some b =>
      have hb : b < 6 := by have := sel_lt _ _ _ ho; omega
      have hbr : b < rn g := by have := sel_lt _ _ _ ho; omega
      show WA RX6 cX6_weakest 5 [] (ab_rm 0 0 0) Q 0 0 6 [some (.ref 0), some (.int (nI b)), some (.int (of g b 2)), some (.int (nI k)), l4] [] n (Hp S)
      refine wa_iload_n dX6_weakest_6 rfl ?_
      refine wa_aload_n dX6_weakest_7 rfl ?_
      refine g_VR (by assumption) 4 dX6_weakest_8 fl_X6_26 (by decide) rfl ?_
      refine H_hd h hn 9 dX6_weakest_11 fl_X6_89 (by decide) (by decide) (fun _ _ _ => rfl) ?_
      rw [show g (hm 9) = nI c from h0]
      refine wa_icmp_ge 53 dX6_weakest_14 rfl (fun c14 => absurd c14 (nI_ge (a := k) (b := c) (by omega) (by omega))) (fun c14 => ?_)
      refine wa_aload_n dX6_weakest_17 rfl ?_
      refine g_VR (by assumption) 4 dX6_weakest_18 fl_X6_26 (by decide) rfl ?_
      refine g_HO h.H hn 10 dX6_weakest_21 fl_X6_231 (by decide) rfl ?_
      refine wa_iload_n dX6_weakest_24 rfl ?_
      refine L_room h.H hn (ix_nI (by omega)) hi6 dX6_weakest_25 ?_
      refine L_n hl hn 2 dX6_weakest_26 fl_X6_146 (by decide) (fun _ _ _ => rfl) ?_
      refine wa_istore dX6_weakest_29 rfl ?_
      refine wa_iload_n dX6_weakest_31 rfl ?_
      refine wa_iconst (x := (-1)) dX6_weakest_32 (by decide) ?_
      refine wa_icmp_eq 42 dX6_weakest_33 rfl (fun c33 => absurd c33 (nI_m1 (by omega))) (fun c33 => ?_)
      refine wa_iload dX6_weakest_36 rfl ?_
      refine wa_iload_n dX6_weakest_38 rfl ?_
      refine wa_icmp_ge 47 dX6_weakest_39 rfl (fun c39 => ?_) (fun c39 => ?_)
      · refine wa_iinc (y := 1) dX6_weakest_47 rfl (by decide) rfl ?_
        refine wa_goto 6 dX6_weakest_50 rfl ?_
        first
        | (rw [nI_1 k]
           exact ih (k + 1) (some k) _ (by omega) ((sel_s ho).trans (if_pos (Int32.not_le.mp c39))))
        | (rw [nI_1 k]
           exact ih (k + 1) (some b) _ (by omega) ((sel_s ho).trans (if_neg (Int32.not_lt.mpr c39))))
      · refine wa_iload_n dX6_weakest_42 rfl ?_
        refine wa_istore_n dX6_weakest_43 rfl ?_
        refine wa_iload dX6_weakest_44 rfl ?_
        refine wa_istore_n dX6_weakest_46 rfl ?_
        refine wa_iinc (y := 1) dX6_weakest_47 rfl (by decide) rfl ?_
        refine wa_goto 6 dX6_weakest_50 rfl ?_
        first
        | (rw [nI_1 k]
           exact ih (k + 1) (some k) _ (by omega) ((sel_s ho).trans (if_pos (Int32.not_le.mp c39))))
        | (rw [nI_1 k]
           exact ih (k + 1) (some b) _ (by omega) ((sel_s ho).trans (if_neg (Int32.not_lt.mpr c39))))
theorem vr_weakest {n : Nat} {S : SS} {g : Nat → Int32} {T : Int} (hn : 279 ≤ n) (h : HH S 34 g (fun _ => True)) (hg : GG T g) (hT : T ≤ 300000) : AM yX6_weakest cX6_weakest 5 (some .int) [] 0 0 0 [.ref 0] n (Hp S) (PI (ov (sel (fun a b => of g a 2 < of g b 2) (rn g))) n S) := by
  intro has
  change WA RX6 cX6_weakest 5 [] _ _ 0 0 0 [some (.ref 0), none, none, none, none] [] n _
  refine wa_iconst (x := (-1)) dX6_weakest_0 (by decide) ?_
  refine wa_istore_n dX6_weakest_1 rfl ?_
  refine wa_iconst (x := 0) dX6_weakest_2 (by decide) ?_
  refine wa_istore_n dX6_weakest_3 rfl ?_
  refine wa_iconst (x := 0) dX6_weakest_4 (by decide) ?_
  refine wa_istore_n dX6_weakest_5 rfl ?_
  exact lpv_weakest hn h hg hT rfl hg.e0 ⟨Nat.le_refl _, Nat.le_refl _, ⟨_, rfl, rfl⟩, rfl, rfl, rfl⟩ (rn g) 0 none none (Nat.zero_add _) rfl
theorem apt_mis {T : Int} {g : Nat → Int32} {i : Nat} (hg : GG T g) (hT : T ≤ 300000) (hi : i < rn g) : i_abs (mis g i) = apt g i := by
  have hR := (hg.2.2.2.2 i hi).2
  obtain ⟨e, b1, b2⟩ := mis_b hR hg.2.1 (hg.PT i) hg.T0 hT
  have hb := tgt_b hR hg.2.1 (hg.PT i)
  have h1 := hR.1
  have h0 := hg.T0
  have e2 : (of g i 0 - tgt g i).toInt = (of g i 0).toInt - (tgt g i).toInt := i_sub (by omega) (by omega)
  refine Int32.toInt_inj.mp ?_
  unfold apt
  rw [iabs_i (by omega), iabs_i (by omega), e, e2]
  omega
theorem lpv_farthest {Q : ab_Q} {n c : Nat} {S : SS} {g : Nat → Int32} {T : Int} (hn : 279 ≤ n) (h : HH S 34 g (fun _ => True)) (hg : GG T g) (hT : T ≤ 300000) (hc : c = rn g) (h0 : g 0 = nI c) (hQ : Q (.inl (some (.int (ov (sel (fun a b => apt g b < apt g a) c))))) 0 0 n (Hp S)) :
    ∀ (r k : Nat) (o : Option Nat) (l4 : Option Value), k + r = c → sel (fun a b => apt g b < apt g a) k = o → WA RX6 cX6_farthest 5 [] (ab_rm 3 0 0) Q 0 0 6 [some (.ref 0), some (.int (ov o)), some (.int (lv (fun X => apt g X) o)), some (.int (nI k)), l4] [] n (Hp S) := by
  have h6 := hg.rn6
  intro r
  induction r with
  | zero =>
    intro k o l4 hk ho
    have hk' : c = k := by omega
    rw [hk'] at hQ h0 hc
    subst ho
    refine wa_iload_n dX6_farthest_6 rfl ?_
    refine wa_aload_n dX6_farthest_7 rfl ?_
    refine g_VR (by assumption) 4 dX6_farthest_8 fl_X6_26 (by decide) rfl ?_
    refine H_hd h hn 9 dX6_farthest_11 fl_X6_89 (by decide) (by decide) (fun _ _ _ => rfl) ?_
    rw [show g (hm 9) = nI k from h0]
    refine wa_icmp_ge 60 dX6_farthest_14 rfl (fun c14 => ?_) (fun c14 => absurd (nI_le (Nat.le_refl _) (by omega)) c14)
    refine wa_iload_n dX6_farthest_60 rfl ?_
    exact wa_ireturn dX6_farthest_61 hQ
  | succ r ih =>
    intro k o l4 hk ho
    have hi : k < rn g := by omega
    have hi6 : k < 6 := by omega
    have hl := h.lvT hi
    cases o with
    | none =>
      show WA RX6 cX6_farthest 5 [] (ab_rm 3 0 0) Q 0 0 6 [some (.ref 0), some (.int (-1)), some (.int 0), some (.int (nI k)), l4] [] n (Hp S)
      refine wa_iload_n dX6_farthest_6 rfl ?_
      refine wa_aload_n dX6_farthest_7 rfl ?_
      refine g_VR (by assumption) 4 dX6_farthest_8 fl_X6_26 (by decide) rfl ?_
      refine H_hd h hn 9 dX6_farthest_11 fl_X6_89 (by decide) (by decide) (fun _ _ _ => rfl) ?_
      rw [show g (hm 9) = nI c from h0]
      refine wa_icmp_ge 60 dX6_farthest_14 rfl (fun c14 => absurd c14 (nI_ge (a := k) (b := c) (by omega) (by omega))) (fun c14 => ?_)
      refine wa_aload_n dX6_farthest_17 rfl ?_
      refine g_VR (by assumption) 4 dX6_farthest_18 fl_X6_26 (by decide) rfl ?_
      refine wa_aload_n dX6_farthest_21 rfl ?_
      refine g_VR (by assumption) 4 dX6_farthest_22 fl_X6_26 (by decide) rfl ?_
      refine g_HO h.H hn 10 dX6_farthest_25 fl_X6_231 (by decide) rfl ?_
      refine wa_iload_n dX6_farthest_28 rfl ?_
      refine L_room h.H hn (ix_nI (by omega)) hi6 dX6_farthest_29 ?_
      refine c_VI dX6_farthest_30 (hh_missingTo hn hl hg.t0 (hg.pre hi)) lk_X6_200 rfl (isH.HO h.H _ _ _) rfl (lt_HO h.H hn) ?_
      refine c_SI dX6_farthest_33 (am_abs _) lk_X6_203 rfl ?_
      rw [apt_mis hg hT hi]
      refine wa_istore dX6_farthest_36 rfl ?_
      refine wa_iload_n dX6_farthest_38 rfl ?_
      refine wa_iconst (x := (-1)) dX6_farthest_39 (by decide) ?_
      refine wa_icmp_eq 49 dX6_farthest_40 rfl (fun c40 => ?_) (fun c40 => absurd rfl c40)
      refine wa_iload_n dX6_farthest_49 rfl ?_
      refine wa_istore_n dX6_farthest_50 rfl ?_
      refine wa_iload dX6_farthest_51 rfl ?_
      refine wa_istore_n dX6_farthest_53 rfl ?_
      refine wa_iinc (y := 1) dX6_farthest_54 rfl (by decide) rfl ?_
      refine wa_goto 6 dX6_farthest_57 rfl ?_
      rw [nI_1 k]
      exact ih (k + 1) (some k) _ (by omega) (sel_n ho)
    | some b =>
      have hb : b < 6 := by have := sel_lt _ _ _ ho; omega
      have hbr : b < rn g := by have := sel_lt _ _ _ ho; omega
      show WA RX6 cX6_farthest 5 [] (ab_rm 3 0 0) Q 0 0 6 [some (.ref 0), some (.int (nI b)), some (.int (apt g b)), some (.int (nI k)), l4] [] n (Hp S)
      refine wa_iload_n dX6_farthest_6 rfl ?_
      refine wa_aload_n dX6_farthest_7 rfl ?_
      refine g_VR (by assumption) 4 dX6_farthest_8 fl_X6_26 (by decide) rfl ?_
      refine H_hd h hn 9 dX6_farthest_11 fl_X6_89 (by decide) (by decide) (fun _ _ _ => rfl) ?_
      rw [show g (hm 9) = nI c from h0]
      refine wa_icmp_ge 60 dX6_farthest_14 rfl (fun c14 => absurd c14 (nI_ge (a := k) (b := c) (by omega) (by omega))) (fun c14 => ?_)
      refine wa_aload_n dX6_farthest_17 rfl ?_
      refine g_VR (by assumption) 4 dX6_farthest_18 fl_X6_26 (by decide) rfl ?_
      refine wa_aload_n dX6_farthest_21 rfl ?_
      refine g_VR (by assumption) 4 dX6_farthest_22 fl_X6_26 (by decide) rfl ?_
      refine g_HO h.H hn 10 dX6_farthest_25 fl_X6_231 (by decide) rfl ?_
      refine wa_iload_n dX6_farthest_28 rfl ?_
      refine L_room h.H hn (ix_nI (by omega)) hi6 dX6_farthest_29 ?_
      refine c_VI dX6_farthest_30 (hh_missingTo hn hl hg.t0 (hg.pre hi)) lk_X6_200 rfl (isH.HO h.H _ _ _) rfl (lt_HO h.H hn) ?_
      refine c_SI dX6_farthest_33 (am_abs _) lk_X6_203 rfl ?_
      rw [apt_mis hg hT hi]
      refine wa_istore dX6_farthest_36 rfl ?_
      refine wa_iload_n dX6_farthest_38 rfl ?_
      refine wa_iconst (x := (-1)) dX6_farthest_39 (by decide) ?_
      refine wa_icmp_eq 49 dX6_farthest_40 rfl (fun c40 => absurd c40 (nI_m1 (by omega))) (fun c40 => ?_)
      refine wa_iload dX6_farthest_43 rfl ?_
      refine wa_iload_n dX6_farthest_45 rfl ?_
      refine wa_icmp_le 54 dX6_farthest_46 rfl (fun c46 => ?_) (fun c46 => ?_)
      · refine wa_iinc (y := 1) dX6_farthest_54 rfl (by decide) rfl ?_
        refine wa_goto 6 dX6_farthest_57 rfl ?_
        first
        | (rw [nI_1 k]
           exact ih (k + 1) (some k) _ (by omega) ((sel_s ho).trans (if_pos (Int32.not_le.mp c46))))
        | (rw [nI_1 k]
           exact ih (k + 1) (some b) _ (by omega) ((sel_s ho).trans (if_neg (Int32.not_lt.mpr c46))))
      · refine wa_iload_n dX6_farthest_49 rfl ?_
        refine wa_istore_n dX6_farthest_50 rfl ?_
        refine wa_iload dX6_farthest_51 rfl ?_
        refine wa_istore_n dX6_farthest_53 rfl ?_
        refine wa_iinc (y := 1) dX6_farthest_54 rfl (by decide) rfl ?_
        refine wa_goto 6 dX6_farthest_57 rfl ?_
        first
        | (rw [nI_1 k]
           exact ih (k + 1) (some k) _ (by omega) ((sel_s ho).trans (if_pos (Int32.not_le.mp c46))))
        | (rw [nI_1 k]
           exact ih (k + 1) (some b) _ (by omega) ((sel_s ho).trans (if_neg (Int32.not_lt.mpr c46))))
theorem vr_farthest {n : Nat} {S : SS} {g : Nat → Int32} {T : Int} (hn : 279 ≤ n) (h : HH S 34 g (fun _ => True)) (hg : GG T g) (hT : T ≤ 300000) : AM yX6_farthest cX6_farthest 5 (some .int) [] 3 0 0 [.ref 0] n (Hp S) (PI (ov (sel (fun a b => apt g b < apt g a) (rn g))) n S) := by
  intro has
  change WA RX6 cX6_farthest 5 [] _ _ 0 0 0 [some (.ref 0), none, none, none, none] [] n _
  refine wa_iconst (x := (-1)) dX6_farthest_0 (by decide) ?_
  refine wa_istore_n dX6_farthest_1 rfl ?_
  refine wa_iconst (x := 0) dX6_farthest_2 (by decide) ?_
  refine wa_istore_n dX6_farthest_3 rfl ?_
  refine wa_iconst (x := 0) dX6_farthest_4 (by decide) ?_
  refine wa_istore_n dX6_farthest_5 rfl ?_
  exact lpv_farthest hn h hg hT rfl hg.e0 ⟨Nat.le_refl _, Nat.le_refl _, ⟨_, rfl, rfl⟩, rfl, rfl, rfl⟩ (rn g) 0 none none (Nat.zero_add _) rfl
theorem vr_sum_1 {n : Nat} {S : SS} {g : Nat → Int32} {T : Int} (hn : 279 ≤ n) (h : HH S 34 g (fun _ => True)) (hg : GG T g) (what : Int32) (h1 : ¬ (inr what 0 5)) : AM yX6_sum cX6_sum 4 (some .int) [] 1 1 6 [.ref 0, .int what] n (Hp S) (PX ab_xA n S) := by
  intro has
  change WA RX6 cX6_sum 4 [] _ _ 0 0 0 [some (.ref 0), some (.int what), none, none] [] n _
  refine wa_iload_n dX6_sum_0 rfl ?_
  refine wa_iconst (x := 0) dX6_sum_1 (by decide) ?_
  refine wa_iconst (x := 5) dX6_sum_2 (by decide) ?_
  exact c_SX dX6_sum_3 (vr_rangeX h1) lk_X6_62 rfl (wt_out ⟨Nat.le_refl _, Nat.le_refl _, trivial, rfl, rfl, rfl⟩ (by decide))
theorem lpv_sum {Q : ab_Q} {n w : Nat} {S : SS} {g : Nat → Int32} {T : Int} (hn : 279 ≤ n) (h : HH S 34 g (fun _ => True)) (hg : GG T g) (hw : w < 6) (hQ : Q (.inl (some (.int (sumN g (12 + w) (rn g))))) 0 0 n (Hp S)) :
    ∀ (r k : Nat), k + r = rn g → WA RX6 cX6_sum 4 [] (ab_rm 1 0 0) Q 0 0 10 [some (.ref 0), some (.int (nI w)), some (.int (sumN g (12 + w) k)), some (.int (nI (k)))] [] n (Hp S) := by
  intro r
  induction r with
  | zero =>
    intro k hk
    have hk' : rn g = k := by omega
    
    have hk2 : k = rn g := hk'.symm
    have h6 := hg.rn6
    refine wa_iload_n dX6_sum_10 rfl ?_
    refine wa_aload_n dX6_sum_11 rfl ?_
    refine g_VR (by assumption) 4 dX6_sum_12 fl_X6_26 (by decide) rfl ?_
    refine H_hd h hn 9 dX6_sum_15 fl_X6_89 (by decide) (by decide) (fun _ _ _ => rfl) ?_
    rw [show g (hm 9) = nI (rn g) from hg.e0]
    refine wa_icmp_ge 44 dX6_sum_18 rfl (fun c18 => ?_) (fun c18 => absurd (by rw [hk2]; exact Int32.le_refl _) c18)
    refine wa_iload_n dX6_sum_44 rfl ?_
    exact wa_ireturn dX6_sum_45 (by rw [hk2]; exact hQ)
  | succ r ih =>
    intro k hk
    have h6 := hg.rn6
    have hl := h.lvT (i := k) (by omega)
    refine wa_iload_n dX6_sum_10 rfl ?_
    refine wa_aload_n dX6_sum_11 rfl ?_
    refine g_VR (by assumption) 4 dX6_sum_12 fl_X6_26 (by decide) rfl ?_
    refine H_hd h hn 9 dX6_sum_15 fl_X6_89 (by decide) (by decide) (fun _ _ _ => rfl) ?_
    rw [show g (hm 9) = nI (rn g) from hg.e0]
    refine wa_icmp_ge 44 dX6_sum_18 rfl (fun c18 => absurd c18 (Int32.not_le.mpr (nI_lt (by omega) (by omega)))) (fun c18 => ?_)
    refine wa_iload_n dX6_sum_21 rfl ?_
    refine wa_aload_n dX6_sum_22 rfl ?_
    refine g_VR (by assumption) 4 dX6_sum_23 fl_X6_26 (by decide) rfl ?_
    refine g_HO h.H hn 10 dX6_sum_26 fl_X6_231 (by decide) rfl ?_
    refine wa_iload_n dX6_sum_29 rfl ?_
    refine L_room h.H hn (ix_nI (by omega)) (by omega) dX6_sum_30 ?_
    refine g_RO hl.R hn 12 dX6_sum_31 fl_X6_174 (by decide) rfl ?_
    refine wa_iload_n dX6_sum_34 rfl ?_
    refine L_cld hl hn w (ix_nI (by omega)) hw dX6_sum_35 ?_
    refine wa_iadd dX6_sum_36 ?_
    refine wa_istore_n dX6_sum_37 rfl ?_
    refine wa_iinc (y := 1) dX6_sum_38 rfl (by decide) rfl ?_
    refine wa_goto 10 dX6_sum_41 rfl ?_
    rw [nI_1 k]
    exact ih (k + 1) (by omega)
theorem vr_sum_0 {n : Nat} {S : SS} {g : Nat → Int32} {T : Int} (hn : 279 ≤ n) (h : HH S 34 g (fun _ => True)) (hg : GG T g) {w : Nat} (hw : w < 6) (h1 : inr (nI w) 0 5) : AM yX6_sum cX6_sum 4 (some .int) [] 1 0 0 [.ref 0, .int (nI w)] n (Hp S) (PI (sumN g (12 + w) (rn g)) n S) := by
  intro has
  change WA RX6 cX6_sum 4 [] _ _ 0 0 0 [some (.ref 0), some (.int (nI w)), none, none] [] n _
  refine wa_iload_n dX6_sum_0 rfl ?_
  refine wa_iconst (x := 0) dX6_sum_1 (by decide) ?_
  refine wa_iconst (x := 5) dX6_sum_2 (by decide) ?_
  refine c_SV dX6_sum_3 (vr_range h1.1 h1.2) lk_X6_62 rfl ?_
  refine wa_iconst (x := 0) dX6_sum_6 (by decide) ?_
  refine wa_istore_n dX6_sum_7 rfl ?_
  refine wa_iconst (x := 0) dX6_sum_8 (by decide) ?_
  refine wa_istore_n dX6_sum_9 rfl ?_
  exact lpv_sum hn h hg hw ⟨Nat.le_refl _, Nat.le_refl _, ⟨_, rfl, rfl⟩, rfl, rfl, rfl⟩ (rn g) 0 (Nat.zero_add _)
theorem vr_errorCode {n : Nat} {S : SS} (hn : 279 ≤ n) : AM yX6_errorCode cX6_errorCode 1 (some .int) [] 0 0 0 [.ref 0] n (Hp S) (PI (S.1 0 1) n S) := by
  intro has
  change WA RX6 cX6_errorCode 1 [] _ _ 0 0 0 [some (.ref 0)] [] n _
  refine wa_aload_n dX6_errorCode_0 rfl ?_
  refine g_VR (by assumption) 1 dX6_errorCode_1 fl_X6_73 (by decide) rfl ?_
  exact wa_ireturn dX6_errorCode_4 ⟨Nat.le_refl _, Nat.le_refl _, ⟨_, rfl, rfl⟩, rfl, rfl, rfl⟩
theorem vr_errorPosition {n : Nat} {S : SS} (hn : 279 ≤ n) : AM yX6_errorPosition cX6_errorPosition 1 (some .int) [] 0 0 0 [.ref 0] n (Hp S) (PI (S.1 0 2) n S) := by
  intro has
  change WA RX6 cX6_errorPosition 1 [] _ _ 0 0 0 [some (.ref 0)] [] n _
  refine wa_aload_n dX6_errorPosition_0 rfl ?_
  refine g_VR (by assumption) 2 dX6_errorPosition_1 fl_X6_44 (by decide) rfl ?_
  exact wa_ireturn dX6_errorPosition_4 ⟨Nat.le_refl _, Nat.le_refl _, ⟨_, rfl, rfl⟩, rfl, rfl, rfl⟩
theorem vr_undoCount {n : Nat} {S : SS} (hn : 279 ≤ n) : AM yX6_undoCount cX6_undoCount 1 (some .int) [] 0 0 0 [.ref 0] n (Hp S) (PI (S.1 0 7) n S) := by
  intro has
  change WA RX6 cX6_undoCount 1 [] _ _ 0 0 0 [some (.ref 0)] [] n _
  refine wa_aload_n dX6_undoCount_0 rfl ?_
  refine g_VR (by assumption) 7 dX6_undoCount_1 fl_X6_284 (by decide) rfl ?_
  exact wa_ireturn dX6_undoCount_4 ⟨Nat.le_refl _, Nat.le_refl _, ⟨_, rfl, rfl⟩, rfl, rfl, rfl⟩
