/-! ValveRoom: changes. Written by program (wip/whole/gen/m792.py) but for the heads. -/
theorem vr_newBattery_0 {n c i : Nat} {S : SS} {g : Nat → Int32} {T : Int} (hn : 269 ≤ n) (h : HH S 34 g (fun _ => True)) (hg : GG T g) (hP : PPf S.2.2.1) (hc : c ≤ 6) (h7 : S.1 0 7 = nI c) (hi : i < rn g) (x : Int32) (hx : inr x 1 9999) : AM yX6_newBattery cX6_newBattery 5 (some .int) [] 3 0 0 [.ref 0, .int (nI i), .int x] n (Hp S) (CHG n S g c (pt g i 2 x) (of g i 2)) := by
  intro has
  change WA RX6 cX6_newBattery 5 [] _ _ 0 0 0 [some (.ref 0), some (.int (nI i)), some (.int x), none, none] [] n _
  have hi6 : i < 6 := by have := hg.rn6; omega
  have hk := rk_l hg hi
  refine wa_aload_n dX6_newBattery_0 rfl ?_
  refine wa_iload_n dX6_newBattery_1 rfl ?_
  refine c_VA dX6_newBattery_2 (vr_roomAt hn h hi6 hk.2) lk_X6_134 rfl (isO_VR _ _ _) rfl (ltS hn) ?_
  refine wa_astore_n dX6_newBattery_5 rfl ?_
  refine wa_iload_n dX6_newBattery_6 rfl ?_
  refine wa_iconst (x := 1) dX6_newBattery_7 (by decide) ?_
  refine wa_sipush (x := 9999) dX6_newBattery_8 (by decide) ?_
  refine c_SV dX6_newBattery_11 (vr_range hx.1 hx.2) lk_X6_62 rfl ?_
  refine wa_aload_n dX6_newBattery_14 rfl ?_
  refine c_VQV dX6_newBattery_15 (vr_remember hn h hg hP hc h7) lk_X6_79 rfl (isO_VR _ _ _) rfl (ltS hn) (fun S1 q1 => ?_)
  have h1 := h.rem q1 hP hc (by decide)
  have hl1 := h1.lvT hi
  refine wa_aload_n dX6_newBattery_18 rfl ?_
  refine L_n hl1 hn 2 dX6_newBattery_19 fl_X6_146 (by decide) (fun _ _ _ => rfl) ?_
  refine wa_istore dX6_newBattery_22 rfl ?_
  refine wa_aload_n dX6_newBattery_24 rfl ?_
  refine wa_iload_n dX6_newBattery_25 rfl ?_
  refine L_put hl1 hn 2 dX6_newBattery_26 fl_X6_146 (by decide) rfl rfl rfl rfl (fun _ _ _ => rfl) (fun S4 h4 => ?_)
  refine wa_iload dX6_newBattery_29 rfl ?_
  exact wa_ireturn dX6_newBattery_31 ⟨Nat.le_refl _, Nat.le_refl _, ⟨_, rfl, rfl⟩, rfl, _, _, rfl, rfl, S1, q1, h1.put1 (by decide) h4, (h4.2.2.2.1.h ⟨by omega, by omega⟩), rfl⟩
theorem vr_turn_0 {n c i : Nat} {S : SS} {g : Nat → Int32} {T : Int} (hn : 269 ≤ n) (h : HH S 34 g (fun _ => True)) (hg : GG T g) (hP : PPf S.2.2.1) (hc : c ≤ 6) (h7 : S.1 0 7 = nI c) (hi : i < rn g) (x : Int32) (hx : inr x 0 100) : AM yX6_turn cX6_turn 5 (some .int) [] 3 0 0 [.ref 0, .int (nI i), .int x] n (Hp S) (CHG n S g c (pt g i 1 x) (of g i 1)) := by
  intro has
  change WA RX6 cX6_turn 5 [] _ _ 0 0 0 [some (.ref 0), some (.int (nI i)), some (.int x), none, none] [] n _
  have hi6 : i < 6 := by have := hg.rn6; omega
  have hk := rk_l hg hi
  refine wa_aload_n dX6_turn_0 rfl ?_
  refine wa_iload_n dX6_turn_1 rfl ?_
  refine c_VA dX6_turn_2 (vr_roomAt hn h hi6 hk.2) lk_X6_134 rfl (isO_VR _ _ _) rfl (ltS hn) ?_
  refine wa_astore_n dX6_turn_5 rfl ?_
  refine wa_iload_n dX6_turn_6 rfl ?_
  refine wa_iconst (x := 0) dX6_turn_7 (by decide) ?_
  refine wa_bipush (x := 100) dX6_turn_8 (by decide) ?_
  refine c_SV dX6_turn_10 (vr_range hx.1 hx.2) lk_X6_62 rfl ?_
  refine wa_aload_n dX6_turn_13 rfl ?_
  refine c_VQV dX6_turn_14 (vr_remember hn h hg hP hc h7) lk_X6_79 rfl (isO_VR _ _ _) rfl (ltS hn) (fun S1 q1 => ?_)
  have h1 := h.rem q1 hP hc (by decide)
  have hl1 := h1.lvT hi
  refine wa_aload_n dX6_turn_17 rfl ?_
  refine L_n hl1 hn 1 dX6_turn_18 fl_X6_143 (by decide) (fun _ _ _ => rfl) ?_
  refine wa_istore dX6_turn_21 rfl ?_
  refine wa_aload_n dX6_turn_23 rfl ?_
  refine wa_iload_n dX6_turn_24 rfl ?_
  refine L_put hl1 hn 1 dX6_turn_25 fl_X6_143 (by decide) rfl rfl rfl rfl (fun _ _ _ => rfl) (fun S4 h4 => ?_)
  refine wa_iload dX6_turn_28 rfl ?_
  exact wa_ireturn dX6_turn_30 ⟨Nat.le_refl _, Nat.le_refl _, ⟨_, rfl, rfl⟩, rfl, _, _, rfl, rfl, S1, q1, h1.put1 (by decide) h4, (h4.2.2.2.1.h ⟨by omega, by omega⟩), rfl⟩
theorem vr_override_0 {n c i : Nat} {S : SS} {g : Nat → Int32} {T : Int} (hn : 269 ≤ n) (h : HH S 34 g (fun _ => True)) (hg : GG T g) (hP : PPf S.2.2.1) (hc : c ≤ 6) (h7 : S.1 0 7 = nI c) (hi : i < rn g) (x y : Int32) (hx : inr x 50 300) (hy : inr y 0 500) : AM yX6_override cX6_override 5 (some .int) [] 3 0 0 [.ref 0, .int (nI i), .int x, .int y] n (Hp S) (CHG n S g c (pt (pt g i 8 x) i 9 y) (tgt (pt (pt g i 8 x) i 9 y) i)) := by
  intro has
  change WA RX6 cX6_override 5 [] _ _ 0 0 0 [some (.ref 0), some (.int (nI i)), some (.int x), some (.int y), none] [] n _
  have hi6 : i < 6 := by have := hg.rn6; omega
  have hk := rk_l hg hi
  refine wa_aload_n dX6_override_0 rfl ?_
  refine wa_iload_n dX6_override_1 rfl ?_
  refine c_VA dX6_override_2 (vr_roomAt hn h hi6 hk.2) lk_X6_134 rfl (isO_VR _ _ _) rfl (ltS hn) ?_
  refine wa_astore dX6_override_5 rfl ?_
  refine wa_iload_n dX6_override_7 rfl ?_
  refine wa_bipush (x := 50) dX6_override_8 (by decide) ?_
  refine wa_sipush (x := 300) dX6_override_10 (by decide) ?_
  refine c_SV dX6_override_13 (vr_range hx.1 hx.2) lk_X6_62 rfl ?_
  refine wa_iload_n dX6_override_16 rfl ?_
  refine wa_iconst (x := 0) dX6_override_17 (by decide) ?_
  refine wa_sipush (x := 500) dX6_override_18 (by decide) ?_
  refine c_SV dX6_override_21 (vr_range hy.1 hy.2) lk_X6_62 rfl ?_
  refine wa_aload_n dX6_override_24 rfl ?_
  refine c_VQV dX6_override_25 (vr_remember hn h hg hP hc h7) lk_X6_79 rfl (isO_VR _ _ _) rfl (ltS hn) (fun S1 q1 => ?_)
  have h1 := h.rem q1 hP hc (by decide)
  have hl1 := h1.lvT hi
  refine wa_aload dX6_override_28 rfl ?_
  refine wa_iload_n dX6_override_30 rfl ?_
  refine L_put hl1 hn 8 dX6_override_31 fl_X6_168 (by decide) rfl rfl rfl rfl (fun _ _ _ => rfl) (fun S4 h4 => ?_)
  refine wa_aload dX6_override_34 rfl ?_
  refine wa_iload_n dX6_override_36 rfl ?_
  refine L_put h4 hn 9 dX6_override_37 fl_X6_165 (by decide) rfl rfl rfl rfl (fun _ _ _ => rfl) (fun S5 h5 => ?_)
  refine wa_aload_n dX6_override_40 rfl ?_
  refine g_VR (by assumption) 4 dX6_override_41 fl_X6_26 (by decide) rfl ?_
  refine wa_aload dX6_override_44 rfl ?_
  refine c_VI dX6_override_46 (hh_targetOf hn h5 (by rw [pt_lo _ _ (by decide), pt_lo _ _ (by decide)]; exact hg.t0) (by rw [of_pt _ _ (by decide) (by decide), if_neg (fun z => absurd z.2 (by decide)), of_pt _ _ (by decide) (by decide), if_neg (fun z => absurd z.2 (by decide))]; exact hg.pre hi)) lk_X6_178 rfl (isH.HO h5.H _ _ _) rfl (lt_HO h5.H hn) ?_
  have h6 : HH S5 34 (pt (pt g i 8 x) i 9 y) (fun _ => True) := h1.step (fun k hk => (pt_lo _ y hk).trans (pt_lo g x hk)) (fun k _ => rfl) (fun _ => rfl) (fun j hj _ => ⟨trivial, (pt_oth hj _ y (by decide)).trans (pt_oth hj g x (by decide))⟩) h5
  exact wa_ireturn dX6_override_49 ⟨Nat.le_refl _, Nat.le_refl _, ⟨_, rfl, rfl⟩, rfl, _, _, rfl, rfl, S1, q1, h6, (h5.2.2.2.1.h ⟨by omega, by omega⟩), rfl⟩
theorem vr_setWindow_0 {n c i : Nat} {S : SS} {g : Nat → Int32} {T : Int} (hn : 269 ≤ n) (h : HH S 34 g (fun _ => True)) (hg : GG T g) (hP : PPf S.2.2.1) (hc : c ≤ 6) (h7 : S.1 0 7 = nI c) (hi : i < rn g) (x : Int32) (hx : x = 0 ∨ x = 1) : AM yX6_setWindow cX6_setWindow 5 (some .boolean) [] 3 0 0 [.ref 0, .int (nI i), .int x] n (Hp S) (CHG n S g c (pt g i 5 x) (of g i 5)) := by
  intro has
  change WA RX6 cX6_setWindow 5 [] _ _ 0 0 0 [some (.ref 0), some (.int (nI i)), some (.int x), none, none] [] n _
  have hi6 : i < 6 := by have := hg.rn6; omega
  have hk := rk_l hg hi
  refine wa_aload_n dX6_setWindow_0 rfl ?_
  refine wa_iload_n dX6_setWindow_1 rfl ?_
  refine c_VA dX6_setWindow_2 (vr_roomAt hn h hi6 hk.2) lk_X6_134 rfl (isO_VR _ _ _) rfl (ltS hn) ?_
  refine wa_astore_n dX6_setWindow_5 rfl ?_
  refine wa_aload_n dX6_setWindow_6 rfl ?_
  refine c_VQV dX6_setWindow_7 (vr_remember hn h hg hP hc h7) lk_X6_79 rfl (isO_VR _ _ _) rfl (ltS hn) (fun S1 q1 => ?_)
  have h1 := h.rem q1 hP hc (by decide)
  have hl1 := h1.lvT hi
  refine wa_aload_n dX6_setWindow_10 rfl ?_
  refine L_n hl1 hn 5 dX6_setWindow_11 fl_X6_155 (by decide) (fun _ _ _ => rfl) ?_
  refine wa_istore dX6_setWindow_14 rfl ?_
  refine wa_aload_n dX6_setWindow_16 rfl ?_
  refine wa_iload_n dX6_setWindow_17 rfl ?_
  refine L_put hl1 hn 5 dX6_setWindow_18 fl_X6_155 (by decide) rfl rfl (nar_b hx) (fit_b hx) (fun _ _ _ => rfl) (fun S4 h4 => ?_)
  refine wa_iload dX6_setWindow_21 rfl ?_
  exact wa_ireturn dX6_setWindow_23 ⟨Nat.le_refl _, Nat.le_refl _, ⟨_, rfl, nar_b (hg.opn hi)⟩, rfl, _, _, rfl, rfl, S1, q1, h1.put1 (by decide) h4, (h4.2.2.2.1.h ⟨by omega, by omega⟩), rfl⟩
theorem vr_setPresent_0 {n c i : Nat} {S : SS} {g : Nat → Int32} {T : Int} (hn : 269 ≤ n) (h : HH S 34 g (fun _ => True)) (hg : GG T g) (hP : PPf S.2.2.1) (hc : c ≤ 6) (h7 : S.1 0 7 = nI c) (hi : i < rn g) (x : Int32) (hx : x = 0 ∨ x = 1) : AM yX6_setPresent cX6_setPresent 4 (some .int) [] 3 0 0 [.ref 0, .int (nI i), .int x] n (Hp S) (CHG n S g c (pt g i 6 x) (tgt (pt g i 6 x) i)) := by
  intro has
  change WA RX6 cX6_setPresent 4 [] _ _ 0 0 0 [some (.ref 0), some (.int (nI i)), some (.int x), none] [] n _
  have hi6 : i < 6 := by have := hg.rn6; omega
  have hk := rk_l hg hi
  refine wa_aload_n dX6_setPresent_0 rfl ?_
  refine wa_iload_n dX6_setPresent_1 rfl ?_
  refine c_VA dX6_setPresent_2 (vr_roomAt hn h hi6 hk.2) lk_X6_134 rfl (isO_VR _ _ _) rfl (ltS hn) ?_
  refine wa_astore_n dX6_setPresent_5 rfl ?_
  refine wa_aload_n dX6_setPresent_6 rfl ?_
  refine c_VQV dX6_setPresent_7 (vr_remember hn h hg hP hc h7) lk_X6_79 rfl (isO_VR _ _ _) rfl (ltS hn) (fun S1 q1 => ?_)
  have h1 := h.rem q1 hP hc (by decide)
  have hl1 := h1.lvT hi
  refine wa_aload_n dX6_setPresent_10 rfl ?_
  refine wa_iload_n dX6_setPresent_11 rfl ?_
  refine L_put hl1 hn 6 dX6_setPresent_12 fl_X6_159 (by decide) rfl rfl (nar_b hx) (fit_b hx) (fun _ _ _ => rfl) (fun S4 h4 => ?_)
  refine wa_aload_n dX6_setPresent_15 rfl ?_
  refine g_VR (by assumption) 4 dX6_setPresent_16 fl_X6_26 (by decide) rfl ?_
  refine wa_aload_n dX6_setPresent_19 rfl ?_
  refine c_VI dX6_setPresent_20 (hh_targetOf hn h4 (by rw [pt_lo _ _ (by decide)]; exact hg.t0) (by rw [of_pt _ _ (by decide) (by decide), if_pos ⟨rfl, rfl⟩]; exact hx)) lk_X6_178 rfl (isH.HO h4.H _ _ _) rfl (lt_HO h4.H hn) ?_
  exact wa_ireturn dX6_setPresent_23 ⟨Nat.le_refl _, Nat.le_refl _, ⟨_, rfl, rfl⟩, rfl, _, _, rfl, rfl, S1, q1, h1.put1 (by decide) h4, (h4.2.2.2.1.h ⟨by omega, by omega⟩), rfl⟩
theorem vr_setOutside_0 {n c : Nat} {S : SS} {g : Nat → Int32} {T : Int} (hn : 269 ≤ n) (h : HH S 34 g (fun _ => True)) (hg : GG T g) (hP : PPf S.2.2.1) (hc : c ≤ 6) (h7 : S.1 0 7 = nI c) (x : Int32) (hx : inr x (-300) 400) : AM yX6_setOutside cX6_setOutside 3 (some .int) [] 3 0 0 [.ref 0, .int x] n (Hp S) (CHG n S g c (upd g 2 x) (g 2)) := by
  intro has
  change WA RX6 cX6_setOutside 3 [] _ _ 0 0 0 [some (.ref 0), some (.int x), none] [] n _
  refine wa_iload_n dX6_setOutside_0 rfl ?_
  refine wa_sipush (x := (-300)) dX6_setOutside_1 (by decide) ?_
  refine wa_sipush (x := 400) dX6_setOutside_4 (by decide) ?_
  refine c_SV dX6_setOutside_7 (vr_range hx.1 hx.2) lk_X6_62 rfl ?_
  refine wa_aload_n dX6_setOutside_10 rfl ?_
  refine c_VQV dX6_setOutside_11 (vr_remember hn h hg hP hc h7) lk_X6_79 rfl (isO_VR _ _ _) rfl (ltS hn) (fun S1 q1 => ?_)
  have h1 := h.rem q1 hP hc (by decide)
  refine wa_aload_n dX6_setOutside_14 rfl ?_
  refine g_VR (by assumption) 4 dX6_setOutside_15 fl_X6_26 (by decide) rfl ?_
  refine H_hd h1 hn 1 dX6_setOutside_18 fl_X6_107 (by decide) (by decide) (fun _ _ _ => rfl) ?_
  refine wa_istore_n dX6_setOutside_21 rfl ?_
  refine wa_aload_n dX6_setOutside_22 rfl ?_
  refine g_VR (by assumption) 4 dX6_setOutside_23 fl_X6_26 (by decide) rfl ?_
  refine wa_iload_n dX6_setOutside_26 rfl ?_
  refine p_HO isH_house hn 1 dX6_setOutside_27 fl_X6_107 (by decide) rfl rfl rfl rfl (fun _ _ _ => rfl) (Nat.le_of_ble_eq_true rfl) ?_
  refine wa_iload_n dX6_setOutside_30 rfl ?_
  exact wa_ireturn dX6_setOutside_31 ⟨Nat.le_refl _, Nat.le_refl _, ⟨_, rfl, rfl⟩, rfl, _, _, rfl, rfl, S1, q1, h1.h1 (j := 1) (by decide) x, FRh.rf.ss ⟨Nat.le_refl _, by omega⟩ 1 x, rfl⟩
theorem vr_setControl_0 {n c : Nat} {S : SS} {g : Nat → Int32} {T : Int} (hn : 269 ≤ n) (h : HH S 34 g (fun _ => True)) (hg : GG T g) (hP : PPf S.2.2.1) (hc : c ≤ 6) (h7 : S.1 0 7 = nI c) (a b d : Int32) (ha : inr a 0 50) (hb : inr b 1 50) (hd : inr d 1 100) : AM yX6_setControl cX6_setControl 5 (some .int) [] 3 0 0 [.ref 0, .int a, .int b, .int d] n (Hp S) (CHG n S g c (upd (upd (upd g 7 a) 8 b) 9 d) (100000 * g 7 + 1000 * g 8 + g 9)) := by
  intro has
  change WA RX6 cX6_setControl 5 [] _ _ 0 0 0 [some (.ref 0), some (.int a), some (.int b), some (.int d), none] [] n _
  refine wa_iload_n dX6_setControl_0 rfl ?_
  refine wa_iconst (x := 0) dX6_setControl_1 (by decide) ?_
  refine wa_bipush (x := 50) dX6_setControl_2 (by decide) ?_
  refine c_SV dX6_setControl_4 (vr_range ha.1 ha.2) lk_X6_62 rfl ?_
  refine wa_iload_n dX6_setControl_7 rfl ?_
  refine wa_iconst (x := 1) dX6_setControl_8 (by decide) ?_
  refine wa_bipush (x := 50) dX6_setControl_9 (by decide) ?_
  refine c_SV dX6_setControl_11 (vr_range hb.1 hb.2) lk_X6_62 rfl ?_
  refine wa_iload_n dX6_setControl_14 rfl ?_
  refine wa_iconst (x := 1) dX6_setControl_15 (by decide) ?_
  refine wa_bipush (x := 100) dX6_setControl_16 (by decide) ?_
  refine c_SV dX6_setControl_18 (vr_range hd.1 hd.2) lk_X6_62 rfl ?_
  refine wa_aload_n dX6_setControl_21 rfl ?_
  refine c_VQV dX6_setControl_22 (vr_remember hn h hg hP hc h7) lk_X6_79 rfl (isO_VR _ _ _) rfl (ltS hn) (fun S1 q1 => ?_)
  have h1 := h.rem q1 hP hc (by decide)
  refine wa_ldcw dX6_setControl_25 wv_X6_278 ?_
  refine wa_aload_n dX6_setControl_28 rfl ?_
  refine g_VR (by assumption) 4 dX6_setControl_29 fl_X6_26 (by decide) rfl ?_
  refine H_hd h1 hn 5 dX6_setControl_32 fl_X6_122 (by decide) (by decide) (fun _ _ _ => rfl) ?_
  refine wa_imul dX6_setControl_35 ?_
  refine wa_sipush (x := 1000) dX6_setControl_36 (by decide) ?_
  refine wa_aload_n dX6_setControl_39 rfl ?_
  refine g_VR (by assumption) 4 dX6_setControl_40 fl_X6_26 (by decide) rfl ?_
  refine H_hd h1 hn 6 dX6_setControl_43 fl_X6_125 (by decide) (by decide) (fun _ _ _ => rfl) ?_
  refine wa_imul dX6_setControl_46 ?_
  refine wa_iadd dX6_setControl_47 ?_
  refine wa_aload_n dX6_setControl_48 rfl ?_
  refine g_VR (by assumption) 4 dX6_setControl_49 fl_X6_26 (by decide) rfl ?_
  refine H_hd h1 hn 7 dX6_setControl_52 fl_X6_128 (by decide) (by decide) (fun _ _ _ => rfl) ?_
  refine wa_iadd dX6_setControl_55 ?_
  refine wa_istore dX6_setControl_56 rfl ?_
  refine wa_aload_n dX6_setControl_58 rfl ?_
  refine g_VR (by assumption) 4 dX6_setControl_59 fl_X6_26 (by decide) rfl ?_
  refine wa_iload_n dX6_setControl_62 rfl ?_
  refine p_HO isH_house hn 5 dX6_setControl_63 fl_X6_122 (by decide) rfl rfl rfl rfl (fun _ _ _ => rfl) (Nat.le_of_ble_eq_true rfl) ?_
  refine wa_aload_n dX6_setControl_66 rfl ?_
  refine g_VR (by assumption) 4 dX6_setControl_67 fl_X6_26 (by decide) rfl ?_
  refine wa_iload_n dX6_setControl_70 rfl ?_
  refine p_HO isH_house hn 6 dX6_setControl_71 fl_X6_125 (by decide) rfl rfl rfl rfl (fun _ _ _ => rfl) (Nat.le_of_ble_eq_true rfl) ?_
  refine wa_aload_n dX6_setControl_74 rfl ?_
  refine g_VR (by assumption) 4 dX6_setControl_75 fl_X6_26 (by decide) rfl ?_
  refine wa_iload_n dX6_setControl_78 rfl ?_
  refine p_HO isH_house hn 7 dX6_setControl_79 fl_X6_128 (by decide) rfl rfl rfl rfl (fun _ _ _ => rfl) (Nat.le_of_ble_eq_true rfl) ?_
  refine wa_iload dX6_setControl_82 rfl ?_
  exact wa_ireturn dX6_setControl_84 ⟨Nat.le_refl _, Nat.le_refl _, ⟨_, rfl, rfl⟩, rfl, _, _, rfl, rfl, S1, q1, ((h1.h1 (j := 5) (by decide) a).h1 (j := 6) (by decide) b).h1 (j := 7) (by decide) d, ((FRh.rf.ss ⟨Nat.le_refl _, by omega⟩ 5 a).ss ⟨Nat.le_refl _, by omega⟩ 6 b).ss ⟨Nat.le_refl _, by omega⟩ 7 d, rfl⟩
theorem tg_i {x : Int32} (hx : inr x 50 300) : 50 ≤ x.toInt ∧ x.toInt ≤ 300 := by
  have k1 : (50 : Int32).toInt = 50 := by decide
  have k2 : (300 : Int32).toInt = 300 := by decide
  have a1 := Int32.le_iff_toInt_le.mp hx.1
  have a2 := Int32.le_iff_toInt_le.mp hx.2
  rw [k1] at a1
  rw [k2] at a2
  exact ⟨a1, a2⟩
/-- the program of a room changed: what putEntry, removeEntry leave -/
theorem HH.prog {S S' : SS} {a i t : Nat} {v : Int32} {g : Nat → Int32} (h : HH S a g (fun _ => True)) (hi : i < rn g) (ht : t < 48) (q : RP S' (a + 5 + 3 * i) (upd (pg g i) t v) ∧ S'.2 = S.2 ∧ (∀ k, k ≠ a + 5 + 3 * i → k ≠ a + 5 + 3 * i + 2 → S'.1 k = S.1 k) ∧ ∀ j, j ≠ 14 → S'.1 (a + 5 + 3 * i) j = S.1 (a + 5 + 3 * i) j) :
    HH S' a (pt g i (18 + t) v) (fun _ => True) ∧ FRh a S S' := by
  obtain ⟨q1, q2, q3, q4⟩ := q
  have hl := h.lvT hi
  have hi6 : i < 6 := by have := h.1.2.1; omega
  have hRR := hl.2.2.2.2.2
  refine ⟨h.room hi6 (fun k hk => pt_lo g v hk) (fun j hj => pt_oth hj g v (by omega)) (fun k h1 _ h3 => q3 k h1 h3) ⟨fun w hw => ?_, fun c hc => ?_, ?_⟩, q2, fun k hk => q3 k (by omega) (by omega)⟩
  · rw [q4 _ (by omega), of_pt g v (by omega) (by omega), if_neg (by omega)]
    exact hRR.1 w hw
  · rw [q3 _ (by omega) (by omega), of_pt g v (by omega) (by omega), if_neg (by omega)]
    exact hRR.2.1 c hc
  · rw [pg_ptP g i v ht]
    exact q1
theorem vr_setProgram_0 {n c i t : Nat} {S : SS} {g : Nat → Int32} {T : Int} (hn : 269 ≤ n) (h : HH S 34 g (fun _ => True)) (hg : GG T g) (hP : PPf S.2.2.1) (hc : c ≤ 6) (h7 : S.1 0 7 = nI c) (hi : i < rn g) (ht : t < 48) (hr : inr (nI t) 0 47) (x : Int32) (hx : inr x 50 300) : AM yX6_setProgram cX6_setProgram 6 (some .int) [] 3 0 0 [.ref 0, .int (nI i), .int (nI t), .int x] n (Hp S) (CHG n S g c (pt g i (18 + t) x) (if pg g i t = 0 then -1 else pg g i t)) := by
  intro has
  change WA RX6 cX6_setProgram 6 [] _ _ 0 0 0 [some (.ref 0), some (.int (nI i)), some (.int (nI t)), some (.int x), none, none] [] n _
  have hi6 : i < 6 := by have := hg.rn6; omega
  have hk := rk_l hg hi
  refine wa_aload_n dX6_setProgram_0 rfl ?_
  refine wa_iload_n dX6_setProgram_1 rfl ?_
  refine c_VA dX6_setProgram_2 (vr_roomAt hn h hi6 hk.2) lk_X6_134 rfl (isO_VR _ _ _) rfl (ltS hn) ?_
  refine wa_astore dX6_setProgram_5 rfl ?_
  refine wa_iload_n dX6_setProgram_7 rfl ?_
  refine wa_iconst (x := 0) dX6_setProgram_8 (by decide) ?_
  refine wa_bipush (x := 47) dX6_setProgram_9 (by decide) ?_
  refine c_SV dX6_setProgram_11 (vr_range hr.1 hr.2) lk_X6_62 rfl ?_
  refine wa_iload_n dX6_setProgram_14 rfl ?_
  refine wa_bipush (x := 50) dX6_setProgram_15 (by decide) ?_
  refine wa_sipush (x := 300) dX6_setProgram_17 (by decide) ?_
  refine c_SV dX6_setProgram_20 (vr_range hx.1 hx.2) lk_X6_62 rfl ?_
  refine wa_aload_n dX6_setProgram_23 rfl ?_
  refine c_VQV dX6_setProgram_24 (vr_remember hn h hg hP hc h7) lk_X6_79 rfl (isO_VR _ _ _) rfl (ltS hn) (fun S1 q1 => ?_)
  have h1 := h.rem q1 hP hc (by decide)
  have hl1 := h1.lvT hi
  refine wa_aload dX6_setProgram_27 rfl ?_
  refine wa_iload_n dX6_setProgram_29 rfl ?_
  refine c_VI dX6_setProgram_30 (am_toldAt (t := t) hl1.R hn hl1.rp (by omega)) lk_X6_255 rfl (isR.RO hl1.R _ _ _) rfl (lt_RO hl1.R hn) ?_
  refine wa_istore dX6_setProgram_33 rfl ?_
  refine wa_aload dX6_setProgram_35 rfl ?_
  refine wa_iload_n dX6_setProgram_37 rfl ?_
  refine wa_iload_n dX6_setProgram_38 rfl ?_
  refine c_VQV dX6_setProgram_39 (am_putEntry (t := t) hl1.R hn hl1.rp ht (tg_i hx)) lk_X6_258 rfl (isR.RO hl1.R _ _ _) rfl (lt_RO hl1.R hn) (fun S4 q4 => ?_)
  have h4 := h1.prog hi ht q4
  refine wa_iload dX6_setProgram_42 rfl ?_
  exact wa_ireturn dX6_setProgram_44 ⟨Nat.le_refl _, Nat.le_refl _, ⟨_, rfl, rfl⟩, rfl, _, _, rfl, rfl, S1, q1, h4.1, h4.2, rfl⟩
theorem told_m1 {P : Nat → Int32} (h : PT P) (t : Nat) : (if P t = 0 then -1 else P t) = -1 ↔ P t = 0 := by
  constructor
  · intro q
    rcases h.2 t with e | e
    · exact e
    · by_cases e0 : P t = 0
      · exact e0
      · rw [if_neg e0] at q
        rw [q] at e
        exact absurd e (by decide)
  · intro q
    exact if_pos q
theorem vr_clearProgram_3 {n i t : Nat} {S : SS} {g : Nat → Int32} {T : Int} (hn : 269 ≤ n) (h : HH S 34 g (fun _ => True)) (hg : GG T g) (hi : i < rn g) (ht : t < 48) (hr : inr (nI t) 0 47) (h0 : pg g i t = 0) : AM yX6_clearProgram cX6_clearProgram 4 (some .int) [] 3 1 6 [.ref 0, .int (nI i), .int (nI t)] n (Hp S) (PX ab_xN n S) := by
  intro has
  change WA RX6 cX6_clearProgram 4 [] _ _ 0 0 0 [some (.ref 0), some (.int (nI i)), some (.int (nI t)), none] [] n _
  have hi6 : i < 6 := by have := hg.rn6; omega
  have hk := rk_l hg hi
  have hl := h.lvT hi
  have hPT := hg.PT i
  refine wa_aload_n dX6_clearProgram_0 rfl ?_
  refine wa_iload_n dX6_clearProgram_1 rfl ?_
  refine c_VA dX6_clearProgram_2 (vr_roomAt hn h hi6 hk.2) lk_X6_134 rfl (isO_VR _ _ _) rfl (ltS hn) ?_
  refine wa_astore_n dX6_clearProgram_5 rfl ?_
  refine wa_iload_n dX6_clearProgram_6 rfl ?_
  refine wa_iconst (x := 0) dX6_clearProgram_7 (by decide) ?_
  refine wa_bipush (x := 47) dX6_clearProgram_8 (by decide) ?_
  refine c_SV dX6_clearProgram_10 (vr_range hr.1 hr.2) lk_X6_62 rfl ?_
  refine wa_aload_n dX6_clearProgram_13 rfl ?_
  refine wa_iload_n dX6_clearProgram_14 rfl ?_
  refine c_VI dX6_clearProgram_15 (am_toldAt (t := t) hl.R hn hl.rp (by omega)) lk_X6_255 rfl (isR.RO hl.R _ _ _) rfl (lt_RO hl.R hn) ?_
  refine wa_iconst (x := (-1)) dX6_clearProgram_18 (by decide) ?_
  refine wa_icmp_ne 33 dX6_clearProgram_19 rfl (fun c19 => absurd ((told_m1 hPT t).mpr h0) c19) (fun c19 => ?_)
  exact wa_throwXW nse_0 nse_1 nse_2 nse_5 xk_NSE (j := 13) rfl dX6_clearProgram_22 dX6_clearProgram_25 dX6_clearProgram_26 dX6_clearProgram_29 dX6_clearProgram_32 (by decide) (by unfold ab_rm; refine ⟨?_, ?_, ?_, ?_⟩ <;> simp) ⟨Nat.le_refl _, Nat.le_refl _, trivial, rfl, rfl, rfl⟩
theorem vr_clearProgram_0 {n c i t : Nat} {S : SS} {g : Nat → Int32} {T : Int} (hn : 269 ≤ n) (h : HH S 34 g (fun _ => True)) (hg : GG T g) (hP : PPf S.2.2.1) (hc : c ≤ 6) (h7 : S.1 0 7 = nI c) (hi : i < rn g) (ht : t < 48) (hr : inr (nI t) 0 47) (h0 : ¬ pg g i t = 0) : AM yX6_clearProgram cX6_clearProgram 4 (some .int) [] 3 0 0 [.ref 0, .int (nI i), .int (nI t)] n (Hp S) (CHG n S g c (pt g i (18 + t) 0) (nI (cnt (pg (pt g i (18 + t) 0) i) 48))) := by
  intro has
  change WA RX6 cX6_clearProgram 4 [] _ _ 0 0 0 [some (.ref 0), some (.int (nI i)), some (.int (nI t)), none] [] n _
  have hi6 : i < 6 := by have := hg.rn6; omega
  have hk := rk_l hg hi
  have hl := h.lvT hi
  have hPT := hg.PT i
  refine wa_aload_n dX6_clearProgram_0 rfl ?_
  refine wa_iload_n dX6_clearProgram_1 rfl ?_
  refine c_VA dX6_clearProgram_2 (vr_roomAt hn h hi6 hk.2) lk_X6_134 rfl (isO_VR _ _ _) rfl (ltS hn) ?_
  refine wa_astore_n dX6_clearProgram_5 rfl ?_
  refine wa_iload_n dX6_clearProgram_6 rfl ?_
  refine wa_iconst (x := 0) dX6_clearProgram_7 (by decide) ?_
  refine wa_bipush (x := 47) dX6_clearProgram_8 (by decide) ?_
  refine c_SV dX6_clearProgram_10 (vr_range hr.1 hr.2) lk_X6_62 rfl ?_
  refine wa_aload_n dX6_clearProgram_13 rfl ?_
  refine wa_iload_n dX6_clearProgram_14 rfl ?_
  refine c_VI dX6_clearProgram_15 (am_toldAt (t := t) hl.R hn hl.rp (by omega)) lk_X6_255 rfl (isR.RO hl.R _ _ _) rfl (lt_RO hl.R hn) ?_
  refine wa_iconst (x := (-1)) dX6_clearProgram_18 (by decide) ?_
  refine wa_icmp_ne 33 dX6_clearProgram_19 rfl (fun c19 => ?_) (fun c19 => absurd ((told_m1 hPT t).mp c19) h0)
  refine wa_aload_n dX6_clearProgram_33 rfl ?_
  refine c_VQV dX6_clearProgram_34 (vr_remember hn h hg hP hc h7) lk_X6_79 rfl (isO_VR _ _ _) rfl (ltS hn) (fun S1 q1 => ?_)
  have h1 := h.rem q1 hP hc (by decide)
  have hl1 := h1.lvT hi
  refine wa_aload_n dX6_clearProgram_37 rfl ?_
  refine wa_aload_n dX6_clearProgram_38 rfl ?_
  refine wa_iload_n dX6_clearProgram_39 rfl ?_
  refine c_VI dX6_clearProgram_40 (am_placeOf (t := t) hl1.R hn hl1.rp (by omega)) lk_X6_263 rfl (isR.RO hl1.R _ _ _) rfl (lt_RO hl1.R hn) ?_
  refine c_VQV dX6_clearProgram_43 (am_removeEntry (t := t) hl1.R hn hl1.rp h0) lk_X6_266 rfl (isR.RO hl1.R _ _ _) rfl (lt_RO hl1.R hn) (fun S4 q4 => ?_)
  have h4 := h1.prog hi ht q4
  have hl4 := h4.1.lvT (i := i) (by rw [show rn (pt g i (18 + t) 0) = rn g from rn_cg (pt_lo g 0 (by decide))]; exact hi)
  refine wa_aload_n dX6_clearProgram_46 rfl ?_
  refine g_RO hl4.R hn 14 dX6_clearProgram_47 fl_X6_186 (by decide) rfl ?_
  rw [hl4.rp.2.1]
  exact wa_ireturn dX6_clearProgram_50 ⟨Nat.le_refl _, Nat.le_refl _, ⟨_, rfl, rfl⟩, rfl, _, _, rfl, rfl, S1, q1, h4.1, h4.2, rfl⟩
theorem vr_plan_4 {n : Nat} {S : SS} {g : Nat → Int32} {T : Int} (hn : 269 ≤ n) (h : HH S 34 g (fun _ => True)) (hg : GG T g) (t r kk : Int32) (h1 : 0 ≤ r ∧ r < g 0) (h2 : inr t (g 1 + 1) (g 1 + 9999)) (h3 : inr kk 0 3) (h4 : ¬ g 3 < 20) : AM yX6_plan cX6_plan 4 (some .int) [] 3 1 6 [.ref 0, .int t, .int r, .int kk] n (Hp S) (PX ab_xS n S) := by
  intro has
  change WA RX6 cX6_plan 4 [] _ _ 0 0 0 [some (.ref 0), some (.int t), some (.int r), some (.int kk)] [] n _
  refine wa_aload_n dX6_plan_0 rfl ?_
  refine wa_iload_n dX6_plan_1 rfl ?_
  refine c_VA dX6_plan_2 (vr_roomAtR hn h h1) lk_X6_134 rfl (isO_VR _ _ _) rfl (ltS hn) ?_
  refine wa_pop dX6_plan_5 rfl ?_
  refine wa_iload_n dX6_plan_6 rfl ?_
  refine wa_aload_n dX6_plan_7 rfl ?_
  refine g_VR (by assumption) 4 dX6_plan_8 fl_X6_26 (by decide) rfl ?_
  refine H_hd h hn 0 dX6_plan_11 fl_X6_100 (by decide) (by decide) (fun _ _ _ => rfl) ?_
  rw [show g (hm 0) = g 1 from rfl]
  refine wa_iconst (x := 1) dX6_plan_14 (by decide) ?_
  refine wa_iadd dX6_plan_15 ?_
  refine wa_aload_n dX6_plan_16 rfl ?_
  refine g_VR (by assumption) 4 dX6_plan_17 fl_X6_26 (by decide) rfl ?_
  refine H_hd h hn 0 dX6_plan_20 fl_X6_100 (by decide) (by decide) (fun _ _ _ => rfl) ?_
  rw [show g (hm 0) = g 1 from rfl]
  refine wa_sipush (x := 9999) dX6_plan_23 (by decide) ?_
  refine wa_iadd dX6_plan_26 ?_
  refine c_SV dX6_plan_27 (vr_range h2.1 h2.2) lk_X6_62 rfl ?_
  refine wa_iload_n dX6_plan_30 rfl ?_
  refine wa_iconst (x := 0) dX6_plan_31 (by decide) ?_
  refine wa_iconst (x := 3) dX6_plan_32 (by decide) ?_
  refine c_SV dX6_plan_33 (vr_range h3.1 h3.2) lk_X6_62 rfl ?_
  refine wa_aload_n dX6_plan_36 rfl ?_
  refine g_VR (by assumption) 4 dX6_plan_37 fl_X6_26 (by decide) rfl ?_
  refine H_hd h hn 11 dX6_plan_40 fl_X6_110 (by decide) (by decide) (fun _ _ _ => rfl) ?_
  refine wa_bipush (x := 20) dX6_plan_43 (by decide) ?_
  refine wa_icmp_lt 59 dX6_plan_45 rfl (fun c45 => absurd c45 h4) (fun c45 => ?_)
  exact wa_throwW xk_ISE (j := 14) rfl dX6_plan_48 dX6_plan_51 dX6_plan_52 dX6_plan_55 dX6_plan_58 (by decide) (by unfold ab_rm; refine ⟨?_, ?_, ?_, ?_⟩ <;> simp) ⟨Nat.le_refl _, Nat.le_refl _, trivial, rfl, rfl, rfl⟩
theorem vr_plan_0 {n c : Nat} {S : SS} {g : Nat → Int32} {T : Int} (hn : 269 ≤ n) (h : HH S 34 g (fun _ => True)) (hg : GG T g) (hP : PPf S.2.2.1) (hc : c ≤ 6) (h7 : S.1 0 7 = nI c) (t r kk : Int32) (h1 : 0 ≤ r ∧ r < g 0) (h2 : inr t (g 1 + 1) (g 1 + 9999)) (h3 : inr kk 0 3) (h4 : g 3 < 20) : AM yX6_plan cX6_plan 4 (some .int) [] 3 0 0 [.ref 0, .int t, .int r, .int kk] n (Hp S) (CHG n S g c (f_plan t r kk g) (nI (ipos g t (pn g)))) := by
  intro has
  change WA RX6 cX6_plan 4 [] _ _ 0 0 0 [some (.ref 0), some (.int t), some (.int r), some (.int kk)] [] n _
  have h20 : pn g < 20 := by
    have e := hg.e3
    have := hg.pn20
    rw [e] at h4
    rw [Int32.lt_iff_toInt_lt, nI_toInt (by omega)] at h4
    have k20 : (20 : Int32).toInt = 20 := by decide
    rw [k20] at h4
    omega
  refine wa_aload_n dX6_plan_0 rfl ?_
  refine wa_iload_n dX6_plan_1 rfl ?_
  refine c_VA dX6_plan_2 (vr_roomAtR hn h h1) lk_X6_134 rfl (isO_VR _ _ _) rfl (ltS hn) ?_
  refine wa_pop dX6_plan_5 rfl ?_
  refine wa_iload_n dX6_plan_6 rfl ?_
  refine wa_aload_n dX6_plan_7 rfl ?_
  refine g_VR (by assumption) 4 dX6_plan_8 fl_X6_26 (by decide) rfl ?_
  refine H_hd h hn 0 dX6_plan_11 fl_X6_100 (by decide) (by decide) (fun _ _ _ => rfl) ?_
  rw [show g (hm 0) = g 1 from rfl]
  refine wa_iconst (x := 1) dX6_plan_14 (by decide) ?_
  refine wa_iadd dX6_plan_15 ?_
  refine wa_aload_n dX6_plan_16 rfl ?_
  refine g_VR (by assumption) 4 dX6_plan_17 fl_X6_26 (by decide) rfl ?_
  refine H_hd h hn 0 dX6_plan_20 fl_X6_100 (by decide) (by decide) (fun _ _ _ => rfl) ?_
  rw [show g (hm 0) = g 1 from rfl]
  refine wa_sipush (x := 9999) dX6_plan_23 (by decide) ?_
  refine wa_iadd dX6_plan_26 ?_
  refine c_SV dX6_plan_27 (vr_range h2.1 h2.2) lk_X6_62 rfl ?_
  refine wa_iload_n dX6_plan_30 rfl ?_
  refine wa_iconst (x := 0) dX6_plan_31 (by decide) ?_
  refine wa_iconst (x := 3) dX6_plan_32 (by decide) ?_
  refine c_SV dX6_plan_33 (vr_range h3.1 h3.2) lk_X6_62 rfl ?_
  refine wa_aload_n dX6_plan_36 rfl ?_
  refine g_VR (by assumption) 4 dX6_plan_37 fl_X6_26 (by decide) rfl ?_
  refine H_hd h hn 11 dX6_plan_40 fl_X6_110 (by decide) (by decide) (fun _ _ _ => rfl) ?_
  refine wa_bipush (x := 20) dX6_plan_43 (by decide) ?_
  refine wa_icmp_lt 59 dX6_plan_45 rfl (fun c45 => ?_) (fun c45 => absurd h4 c45)
  refine wa_aload_n dX6_plan_59 rfl ?_
  refine c_VQV dX6_plan_60 (vr_remember hn h hg hP hc h7) lk_X6_79 rfl (isO_VR _ _ _) rfl (ltS hn) (fun S1 q1 => ?_)
  have hr1 := h.rem q1 hP hc (by decide)
  refine wa_aload_n dX6_plan_63 rfl ?_
  refine g_VR (by assumption) 4 dX6_plan_64 fl_X6_26 (by decide) rfl ?_
  refine wa_iload_n dX6_plan_67 rfl ?_
  refine wa_iload_n dX6_plan_68 rfl ?_
  refine wa_iload_n dX6_plan_69 rfl ?_
  refine c_VQI dX6_plan_70 (hh_putPlan hn hr1 hg.e3 h20 t r kk) lk_X6_271 rfl (isH.HO hr1.H _ _ _) rfl (lt_HO hr1.H hn) (fun v4 S4 q4 => ?_)
  exact wa_ireturn dX6_plan_73 ⟨Nat.le_refl _, Nat.le_refl _, ⟨_, rfl, rfl⟩, rfl, _, _, rfl, rfl, S1, q1, q4.1.1, q4.1.2, q4.2⟩
theorem vr_dropPlan_0 {n c k : Nat} {S : SS} {g : Nat → Int32} {T : Int} (hn : 269 ≤ n) (h : HH S 34 g (fun _ => True)) (hg : GG T g) (hP : PPf S.2.2.1) (hc : c ≤ 6) (h7 : S.1 0 7 = nI c) (hk : k < pn g) (h1 : 0 ≤ nI k ∧ nI k < g 3) : AM yX6_dropPlan cX6_dropPlan 2 (some .int) [] 3 0 0 [.ref 0, .int (nI k)] n (Hp S) (CHG n S g c (f_drop k 1 g) (g 3 - 1)) := by
  intro has
  change WA RX6 cX6_dropPlan 2 [] _ _ 0 0 0 [some (.ref 0), some (.int (nI k))] [] n _
  have h20 := hg.pn20
  refine wa_aload_n dX6_dropPlan_0 rfl ?_
  refine wa_iload_n dX6_dropPlan_1 rfl ?_
  refine c_VV dX6_dropPlan_2 (vr_plan hn h h1) lk_X6_208 rfl (isO_VR _ _ _) rfl (ltS hn) ?_
  refine wa_aload_n dX6_dropPlan_5 rfl ?_
  refine c_VQV dX6_dropPlan_6 (vr_remember hn h hg hP hc h7) lk_X6_79 rfl (isO_VR _ _ _) rfl (ltS hn) (fun S1 q1 => ?_)
  have hr1 := h.rem q1 hP hc (by decide)
  refine wa_aload_n dX6_dropPlan_9 rfl ?_
  refine g_VR (by assumption) 4 dX6_dropPlan_10 fl_X6_26 (by decide) rfl ?_
  refine wa_iload_n dX6_dropPlan_13 rfl ?_
  refine wa_iconst (x := 1) dX6_dropPlan_14 (by decide) ?_
  refine c_VV dX6_dropPlan_15 (hh_removePlans (m := 1) hn hr1.H ((hr1.n (j := 11) (by decide) (by decide)).trans hg.e3) h20 (by omega)) lk_X6_275 rfl (isH.HO hr1.H _ _ _) rfl (lt_HO hr1.H hn) ?_
  refine wa_aload_n dX6_dropPlan_18 rfl ?_
  refine g_VR (by assumption) 4 dX6_dropPlan_19 fl_X6_26 (by decide) rfl ?_
  have hd := hr1.drop (f := k) (m := 1) hg.e3 (by omega)
  refine H_hd hd hn 11 dX6_dropPlan_22 fl_X6_110 (by decide) (by decide) (fun _ _ _ => rfl) ?_
  exact wa_ireturn dX6_dropPlan_25 ⟨Nat.le_refl _, Nat.le_refl _, ⟨_, rfl, rfl⟩, rfl, _, _, rfl, rfl, S1, q1, hd, FRh_drop FRh.rf, rfl⟩
/-- the steps of N ticks -/
def stN (g : Nat → Int32) : Nat → Int32
  | 0 => 0
  | k + 1 => stN g k + stp (f_due (f_time (ticksN g k))) (rn (ticksN g k))
theorem sumN_cg {g g' : Nat → Int32} {w : Nat} : ∀ c, (∀ i, i < c → of g i w = of g' i w) → sumN g w c = sumN g' w c
  | 0, _ => rfl
  | c + 1, h => by
    show sumN g w c + of g c w = sumN g' w c + of g' c w
    rw [sumN_cg c (fun i hi => h i (by omega)), h c (by omega)]
theorem goOns_of (g : Nat → Int32) {i c : Nat} (h : c ≤ i) {w : Nat} (hw : w < 66) : of (goOns g c) i w = of g i w := by
  have e := goOns_rst g i c
  rw [if_neg (by omega)] at e
  exact rst_of e hw
theorem goOns_of2 (g : Nat → Int32) {i c : Nat} (h : i < c) {w : Nat} (hw : w < 66) : of (goOns g c) i w = of (goOns g (c + 1)) i w := by
  have e := goOns_rst g i c
  have e2 := goOns_rst g i (c + 1)
  rw [if_pos h] at e
  rw [if_pos (by omega)] at e2
  exact rst_of (e.trans e2.symm) hw
theorem add4 (a b c d : Int32) : a - b + (c - d) = a + c - (b + d) := by
  rw [Int32.sub_eq_add_neg, Int32.sub_eq_add_neg, Int32.sub_eq_add_neg, Int32.neg_add, Int32.add_assoc, Int32.add_assoc, ← Int32.add_assoc (-b), Int32.add_comm (-b), Int32.add_assoc, Int32.sub_eq_add_neg]
theorem stp_sum (g : Nat → Int32) : ∀ c, stp g c = sumN (goOns g c) 12 c - sumN g 12 c
  | 0 => by
    show (0 : Int32) = 0 - 0
    decide
  | c + 1 => by
    show stp g c + (of (goOns g (c + 1)) c 12 - of (goOns g c) c 12) = sumN (goOns g (c + 1)) 12 c + of (goOns g (c + 1)) c 12 - (sumN g 12 c + of g c 12)
    rw [stp_sum g c, goOns_of g (Nat.le_refl c) (by decide), sumN_cg (g := goOns g (c + 1)) (g' := goOns g c) c (fun i hi => (goOns_of2 g hi (by decide)).symm)]
    exact add4 _ _ _ _
theorem carry12 (g : Nat → Int32) (i j : Nat) (k : Int32) : of (f_carry i k g) j 12 = of g j 12 := by
  unfold f_carry
  rw [of_ad _ _ (by decide) (by decide), if_neg (by omega)]
  split
  · rw [of_pt _ _ (by decide) (by decide), if_neg (by omega)]
  · rw [of_pt _ _ (by decide) (by decide), if_neg (by omega)]
theorem cars12 (g : Nat → Int32) (j : Nat) : ∀ k, of (f_cars g k) j 12 = of g j 12
  | 0 => rfl
  | k + 1 => (carry12 _ _ j _).trans (cars12 g j k)
theorem due12 {T : Int} {g : Nat → Int32} (h : GG T g) (j : Nat) : of (f_due (f_time g)) j 12 = of g j 12 := by
  have h20 := h.pn20
  have e3 : f_time g 3 = g 3 := by
    unfold f_time
    exact upd_o (by decide)
  have ep : pn (f_cars (f_time g) (dueN (f_time g))) = pn g := (pn_cg ((kp_cars _ _).2 3 (by decide))).trans (pn_cg e3)
  have e1 : of (f_due (f_time g)) j 12 = of (f_cars (f_time g) (dueN (f_time g))) j 12 := by
    unfold of f_due
    exact drop_hi (by rw [ep]; exact h20) (by omega)
  have e2 : of (f_time g) j 12 = of g j 12 := by
    unfold of f_time
    exact upd_o (by omega)
  rw [e1, cars12, e2]
theorem sub_tel (a b c : Int32) : a - b + (c - a) = c - b := by
  rw [Int32.sub_eq_add_neg a b, Int32.sub_eq_add_neg c a, Int32.sub_eq_add_neg c b]
  have e : a + -b + (c + -a) = c + -b + (a + -a) := by ac_rfl
  rw [e, Int32.add_right_neg, Int32.add_zero]
theorem stN_sum {T : Int} {g : Nat → Int32} (h : GG T g) : ∀ k : Nat, T + k ≤ 200001 → stN g k = sumN (ticksN g k) 12 (rn g) - sumN g 12 (rn g)
  | 0, _ => by
    show (0 : Int32) = sumN g 12 (rn g) - sumN g 12 (rn g)
    rw [Int32.sub_self]
  | k + 1, hk => by
    have hgk := GG_ticks h k (by omega)
    have er : rn (ticksN g k) = rn g := rn_ticks g k
    show stN g k + stp (f_due (f_time (ticksN g k))) (rn (ticksN g k)) = sumN (f_tick (ticksN g k)) 12 (rn g) - _
    have ed : rn (f_due (f_time (ticksN g k))) = rn g := (due_rn hgk.pn20).trans er
    rw [stN_sum h k (by omega), stp_sum, er, sumN_cg (g := f_due (f_time (ticksN g k))) (g' := ticksN g k) (rn g) (fun i _ => due12 hgk i)]
    have et : f_tick (ticksN g k) = goOns (f_due (f_time (ticksN g k))) (rn g) := by
      show goOns _ (rn (ticksN g k)) = _
      rw [er]
    rw [et]
    exact sub_tel _ _ _
theorem lpv_tick {Q : ab_Q} {n N : Nat} {S0 : SS} {g : Nat → Int32} {T : Int} (hn : 269 ≤ n) (hg : GG T g) (hN : N < 2147483647) (hT : T + N ≤ 200000) :
    ∀ (r k : Nat) (S1 : SS), k + r = N → HH S1 34 (ticksN g k) (fun _ => True) → FRh 34 S0 S1 → (∀ S', HH S' 34 (ticksN g (N)) (fun _ => True) → FRh 34 S0 S' → Q (.inl (some (.int (stN g N)))) 0 0 n (Hp S')) → WA RX6 cX6_tick 4 [] (ab_rm 8 0 0) Q 0 0 16 [some (.ref 0), some (.int (nI N)), some (.int (stN g k)), some (.int (nI (k)))] [] n (Hp S1) := by
  intro r
  induction r with
  | zero =>
    intro k S1 hk h hfr hQ
    have hk2 : k = N := by omega

    refine wa_iload_n dX6_tick_16 rfl ?_
    refine wa_iload_n dX6_tick_17 rfl ?_
    refine wa_icmp_ge 37 dX6_tick_18 rfl (fun c18 => ?_) (fun c18 => absurd (by rw [hk2]; exact Int32.le_refl _) c18)
    refine wa_iload_n dX6_tick_37 rfl ?_
    exact wa_ireturn dX6_tick_38 (by rw [hk2] at h ⊢; exact hQ S1 h hfr)
  | succ r ih =>
    intro k S1 hk h hfr hQ
    have hgk := GG_ticks hg k (by omega)
    have okk := (GG_tick hgk (by omega)).2
    refine wa_iload_n dX6_tick_16 rfl ?_
    refine wa_iload_n dX6_tick_17 rfl ?_
    refine wa_icmp_ge 37 dX6_tick_18 rfl (fun c18 => absurd c18 (nI_ge (by omega) (by omega))) (fun c18 => ?_)
    refine wa_iload_n dX6_tick_21 rfl ?_
    refine wa_aload_n dX6_tick_22 rfl ?_
    refine g_VR (by assumption) 4 dX6_tick_23 fl_X6_26 (by decide) rfl ?_
    refine c_VQI dX6_tick_26 (hh_passTick hn h hgk.e0 hgk.e3 hgk.2.2.1 okk) lk_X6_248 rfl (isH.HO isH_house _ _ _) rfl (lt_HO isH_house hn) (fun v2 S2 q2 => ?_)
    refine wa_iadd dX6_tick_29 ?_
    rw [q2.2, show stN g k + stp (f_due (f_time (ticksN g k))) (rn (ticksN g k)) = stN g (k + 1) from rfl]
    refine wa_istore_n dX6_tick_30 rfl ?_
    refine wa_iinc (y := 1) dX6_tick_31 rfl (by decide) rfl ?_
    refine wa_goto 16 dX6_tick_34 rfl ?_
    rw [nI_1 k]
    exact ih (k + 1) S2 (by omega) q2.1.1 (hfr.tr q2.1.2) hQ
theorem vr_tick_0 {n c N : Nat} {S : SS} {g : Nat → Int32} {T : Int} (hn : 269 ≤ n) (h : HH S 34 g (fun _ => True)) (hg : GG T g) (hP : PPf S.2.2.1) (hc : c ≤ 6) (h7 : S.1 0 7 = nI c) (hN : N ≤ 200) (hr : inr (nI N) 1 200) (hT : T ≤ 199000) : AM yX6_tick cX6_tick 4 (some .int) [] 8 0 0 [.ref 0, .int (nI N)] n (Hp S) (CHG n S g c (ticksN g N) (sumN (ticksN g N) 12 (rn g) - sumN g 12 (rn g))) := by
  intro has
  change WA RX6 cX6_tick 4 [] _ _ 0 0 0 [some (.ref 0), some (.int (nI N)), none, none] [] n _
  refine wa_iload_n dX6_tick_0 rfl ?_
  refine wa_iconst (x := 1) dX6_tick_1 (by decide) ?_
  refine wa_sipush (x := 200) dX6_tick_2 (by decide) ?_
  refine c_SV dX6_tick_5 (vr_range hr.1 hr.2) lk_X6_62 rfl ?_
  refine wa_aload_n dX6_tick_8 rfl ?_
  refine c_VQV dX6_tick_9 (vr_remember hn h hg hP hc h7) lk_X6_79 rfl (isO_VR _ _ _) rfl (ltS hn) (fun S1 q1 => ?_)
  have h1 := h.rem q1 hP hc (by decide)
  refine wa_iconst (x := 0) dX6_tick_12 (by decide) ?_
  refine wa_istore_n dX6_tick_13 rfl ?_
  refine wa_iconst (x := 0) dX6_tick_14 (by decide) ?_
  refine wa_istore_n dX6_tick_15 rfl ?_
  exact lpv_tick (S0 := S1) hn hg (by omega) (by omega) N 0 S1 (Nat.zero_add _) h1 FRh.rf (fun S' h' hf' => ⟨Nat.le_refl _, Nat.le_refl _, ⟨_, rfl, rfl⟩, rfl, _, S', rfl, rfl, S1, q1, h', hf', stN_sum hg N (by omega)⟩)
