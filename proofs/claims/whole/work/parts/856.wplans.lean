/-! ValveRoom: writePlans. Written by program (wip/whole/gen/m856.py) but for the heads. -/
theorem vr_signOf {n c : Nat} {h : ab_H} (hc : c < 4) : AM yX6_signOf cX6_signOf 1 (some .char) [] 0 0 0 [.int (nI c)] n h (PAh (.int (sgn (nI c))) n h) := by
  intro has
  change WA RX6 cX6_signOf 1 [] _ _ 0 0 0 [some (.int (nI c))] [] n _
  refine wa_iload_n dX6_signOf_0 rfl ?_
  rcases (show c = 0 ∨ c = 1 ∨ c = 2 ∨ c = 3 by omega) with rfl | rfl | rfl | rfl
  · refine wa_tableIn 28 dX6_signOf_1 (by decide) (by decide) rfl rfl ?_
    refine wa_bipush (x := 111) dX6_signOf_28 (by decide) ?_
    exact wa_ireturn dX6_signOf_30 ⟨Nat.le_refl _, Nat.le_refl _, ⟨_, rfl, rfl⟩, rfl, rfl, rfl⟩
  · refine wa_tableIn 31 dX6_signOf_1 (by decide) (by decide) rfl rfl ?_
    refine wa_bipush (x := 99) dX6_signOf_31 (by decide) ?_
    exact wa_ireturn dX6_signOf_33 ⟨Nat.le_refl _, Nat.le_refl _, ⟨_, rfl, rfl⟩, rfl, rfl, rfl⟩
  · refine wa_tableIn 34 dX6_signOf_1 (by decide) (by decide) rfl rfl ?_
    refine wa_bipush (x := 43) dX6_signOf_34 (by decide) ?_
    exact wa_ireturn dX6_signOf_36 ⟨Nat.le_refl _, Nat.le_refl _, ⟨_, rfl, rfl⟩, rfl, rfl, rfl⟩
  · refine wa_tableOut 37 dX6_signOf_1 (Or.inr (by decide)) rfl ?_
    refine wa_bipush (x := 45) dX6_signOf_37 (by decide) ?_
    exact wa_ireturn dX6_signOf_39 ⟨Nat.le_refl _, Nat.le_refl _, ⟨_, rfl, rfl⟩, rfl, rfl, rfl⟩
theorem sgn_lo (x : Int32) : 0 ≤ (sgn x).toInt ∧ (sgn x).toInt < 128 := by
  unfold sgn
  split
  · decide
  split
  · decide
  split <;> decide
theorem lpv_wplans {Q : ab_Q} {n0 : Nat} {S0 : SS} {g : Nat → Int32} {T : Int} (h0 : 279 ≤ n0) (h7 : n0 + 7 ≤ ab_CB) (h : HH S0 34 g (fun _ => True)) (hg : GG T g) (hrr : ∀ i, i < pn g → (g (11 + 3 * i)).toInt.natAbs < 100000000) (hWT : WPT g) : ∀ (r i n : Nat) (S : SS) (j : Nat) (f : Nat → Int32) (k z : Nat), i + r = pn g → WB n0 S0 n S j f (plansT g i) k z → (∀ n' S' j' f' k' z', WB n0 S0 n' S' j' f' (plansT g (pn g)) k' z' → Q (.inl (some (.int (nI (plansT g (pn g)).length)))) k' z' n' (Hp S')) → WA RX6 cX6_writePlans 2 [] (ab_rm 6 5 1200) Q k z 10 [some (.ref 0), some (.int (nI i))] [] n (Hp S) := by
  intro r
  induction r with
  | zero =>
    intro i n S j f k z hk hw hQ
    have hk2 : i = pn g := by omega
    obtain ⟨hn, hn1, hk5, hz5⟩ := hw.lt h0 h7
    have h20 := hg.pn20
    have hlen := plans_len hWT i (by omega)
    refine wa_iload_n dX6_writePlans_10 rfl ?_
    refine wa_aload_n dX6_writePlans_11 rfl ?_
    refine g_VR (by assumption) 4 dX6_writePlans_12 fl_X6_26 (by decide) rfl ?_
    refine H_hd (h.b hw.f (Or.inr (by decide))) hn 11 dX6_writePlans_15 fl_X6_110 (by decide) (by decide) (fun _ _ _ => rfl) ?_
    rw [show g (hm 11) = nI (pn g) from hg.e3]
    refine wa_icmp_ge 95 dX6_writePlans_18 rfl (fun c18 => ?_) (fun c18 => absurd (by rw [hk2]; exact Int32.le_refl _) c18)
    refine wa_aload_n dX6_writePlans_95 rfl ?_
    refine g_VR hn 3 dX6_writePlans_96 fl_X6_19 (by decide) rfl ?_
    refine c_VI dX6_writePlans_99 (sb_length hn hw.1.2.2.1) lk_X6_303 rfl (isO_SB _ _ _) rfl (ltS hn) ?_
    exact wa_ireturn dX6_writePlans_102 (by
      have e : i = pn g := hk2
      subst e
      exact hQ n S j f k z hw)
  | succ r ih =>
    intro i n S j f k z hk hw hQ
    have hi : i < pn g := by omega
    obtain ⟨hn, hn1, hk5, hz5⟩ := hw.lt h0 h7
    have h20 := hg.pn20
    have hlen := plans_len hWT i (by omega)
    obtain ⟨r1, r2, r3, r4, r5⟩ := hWT i hi
    have ht1 := hrr i hi
    have ht2 : (g (11 + 3 * i + 1)).toInt.natAbs < 100000000 := by omega
    obtain ⟨ek, -⟩ := nI_of_nn r4
    have d1 := decI_11 ht1
    have d2 := decI_11 ht2
    refine wa_iload_n dX6_writePlans_10 rfl ?_
    refine wa_aload_n dX6_writePlans_11 rfl ?_
    refine g_VR (by assumption) 4 dX6_writePlans_12 fl_X6_26 (by decide) rfl ?_
    refine H_hd (h.b hw.f (Or.inr (by decide))) hn 11 dX6_writePlans_15 fl_X6_110 (by decide) (by decide) (fun _ _ _ => rfl) ?_
    rw [show g (hm 11) = nI (pn g) from hg.e3]
    refine wa_icmp_ge 95 dX6_writePlans_18 rfl (fun c18 => absurd c18 (nI_ge (by omega) (by omega))) (fun c18 => ?_)
    refine wa_iload_n dX6_writePlans_21 rfl ?_
    by_cases hi0 : 0 < i
    · have esp : (if 0 < i then [32] else [] : List Int32) = [32] := if_pos hi0
      refine wa_if_le 35 dX6_writePlans_22 rfl (fun c22 => absurd c22 (Int32.not_le.mpr (show nI 0 < nI i from nI_lt hi0 (by omega)))) (fun c22 => ?_)
      refine wa_aload_n dX6_writePlans_25 rfl ?_
      refine g_VR hn 3 dX6_writePlans_26 fl_X6_19 (by decide) rfl ?_
      refine wa_bipush (x := 32) dX6_writePlans_29 (by decide) ?_
      refine WA_k (Nat.zero_add _) (Nat.zero_add _) ?_
      refine ap_C (K0 := 0) (Z0 := 0) dX6_writePlans_31 lk_X6_295 hn hw hn1 (by decide) (by decide) (by decide) (by decide) (by simp only [List.length_cons, List.length_nil]; omega) (by exact Nat.le_of_ble_eq_true rfl) (fun n1 S1 j1 f1 k1 z1 b1 w1 => ?_)
      rw [Nat.zero_add, Nat.zero_add]
      obtain ⟨hn1, hm1, hk1, hz1⟩ := w1.lt h0 h7
      have hp1 := (h.b w1.f (Or.inr (by decide))).2.2.1 i hi
      refine wa_pop dX6_writePlans_34 rfl ?_
      refine wa_aload_n dX6_writePlans_35 rfl ?_
      refine g_VR hn1 3 dX6_writePlans_36 fl_X6_19 (by decide) rfl ?_
      refine wa_aload_n dX6_writePlans_39 rfl ?_
      refine g_VR hn1 4 dX6_writePlans_40 fl_X6_26 (by decide) rfl ?_
      refine g_HO isH_house hn1 12 dX6_writePlans_43 fl_X6_211 (by decide) rfl ?_
      refine wa_iload_n dX6_writePlans_46 rfl ?_
      refine s_iald (j := i) (isH_house.pl (o := 2) (by decide) (by decide)) dX6_writePlans_47 (lt_pl isH_house hn1) (nI_toInt (by omega)) (by omega) ?_
      rw [hp1.1]
      refine WA_k (Nat.zero_add _) (Nat.zero_add _) ?_
      refine ap_I (K0 := 0) (Z0 := 0) dX6_writePlans_48 lk_X6_312 hn1 w1 hm1 (by decide) (by decide) (by decide) ht1 (by simp only [List.length_append, List.length_cons, List.length_nil]; omega) (by exact Nat.le_of_ble_eq_true rfl) (fun n2 S2 j2 f2 k2 z2 b2 w2 => ?_)
      rw [Nat.zero_add, Nat.zero_add]
      obtain ⟨hn2, hm2, hk2, hz2⟩ := w2.lt h0 h7
      have hp2 := (h.b w2.f (Or.inr (by decide))).2.2.1 i hi
      refine wa_bipush (x := 64) dX6_writePlans_51 (by decide) ?_
      refine WA_k (Nat.zero_add _) (Nat.zero_add _) ?_
      refine ap_C (K0 := 0) (Z0 := 0) dX6_writePlans_53 lk_X6_295 hn2 w2 hm2 (by decide) (by decide) (by decide) (by decide) (by simp only [List.length_append, List.length_cons, List.length_nil]; omega) (by exact Nat.le_of_ble_eq_true rfl) (fun n3 S3 j3 f3 k3 z3 b3 w3 => ?_)
      rw [Nat.zero_add, Nat.zero_add]
      obtain ⟨hn3, hm3, hk3, hz3⟩ := w3.lt h0 h7
      have hp3 := (h.b w3.f (Or.inr (by decide))).2.2.1 i hi
      refine wa_aload_n dX6_writePlans_56 rfl ?_
      refine g_VR hn3 4 dX6_writePlans_57 fl_X6_26 (by decide) rfl ?_
      refine g_HO isH_house hn3 13 dX6_writePlans_60 fl_X6_214 (by decide) rfl ?_
      refine wa_iload_n dX6_writePlans_63 rfl ?_
      refine s_iald (j := i) (isH_house.pl (o := 3) (by decide) (by decide)) dX6_writePlans_64 (lt_pl isH_house hn3) (nI_toInt (by omega)) (by omega) ?_
      rw [hp3.2.1]
      refine WA_k (Nat.zero_add _) (Nat.zero_add _) ?_
      refine ap_I (K0 := 0) (Z0 := 0) dX6_writePlans_65 lk_X6_312 hn3 w3 hm3 (by decide) (by decide) (by decide) ht2 (by simp only [List.length_append, List.length_cons, List.length_nil]; omega) (by exact Nat.le_of_ble_eq_true rfl) (fun n4 S4 j4 f4 k4 z4 b4 w4 => ?_)
      rw [Nat.zero_add, Nat.zero_add]
      obtain ⟨hn4, hm4, hk4, hz4⟩ := w4.lt h0 h7
      have hp4 := (h.b w4.f (Or.inr (by decide))).2.2.1 i hi
      refine wa_pop dX6_writePlans_68 rfl ?_
      refine wa_aload_n dX6_writePlans_69 rfl ?_
      refine g_VR hn4 3 dX6_writePlans_70 fl_X6_19 (by decide) rfl ?_
      refine wa_aload_n dX6_writePlans_73 rfl ?_
      refine g_VR hn4 4 dX6_writePlans_74 fl_X6_26 (by decide) rfl ?_
      refine g_HO isH_house hn4 14 dX6_writePlans_77 fl_X6_217 (by decide) rfl ?_
      refine wa_iload_n dX6_writePlans_80 rfl ?_
      refine s_iald (j := i) (isH_house.pl (o := 4) (by decide) (by decide)) dX6_writePlans_81 (lt_pl isH_house hn4) (nI_toInt (by omega)) (by omega) ?_
      rw [hp4.2.2]
      rw [ek]
      refine c_SAh dX6_writePlans_82 (vr_signOf (by omega)) lk_X6_315 rfl ?_
      rw [← ek]
      refine WA_k (Nat.zero_add _) (Nat.zero_add _) ?_
      refine ap_C (K0 := 0) (Z0 := 0) dX6_writePlans_85 lk_X6_295 hn4 w4 hm4 (by decide) (by decide) (by decide) (sgn_lo _) (by simp only [List.length_append, List.length_cons, List.length_nil]; omega) (by exact Nat.le_of_ble_eq_true rfl) (fun n5 S5 j5 f5 k5 z5 b5 w5 => ?_)
      rw [Nat.zero_add, Nat.zero_add]
      obtain ⟨hn5, hm5, hk5, hz5⟩ := w5.lt h0 h7
      have hp5 := (h.b w5.f (Or.inr (by decide))).2.2.1 i hi
      refine wa_pop dX6_writePlans_88 rfl ?_
      refine wa_iinc (y := 1) dX6_writePlans_89 rfl (by decide) rfl ?_
      rw [nI_1 i]
      refine wa_goto 10 dX6_writePlans_92 rfl ?_
      exact ih (i + 1) n5 S5 j5 f5 k5 z5 (by omega) (show WB _ _ _ _ _ _ (plansT g (i + 1)) _ _ from by show WB _ _ _ _ _ _ (plansT g i ++ (if 0 < i then [32] else []) ++ decI (g (11 + 3 * i)) ++ [64] ++ decI (g (11 + 3 * i + 1)) ++ [sgn (g (11 + 3 * i + 2))]) _ _; rw [esp]; exact w5) hQ
    have esp : (if 0 < i then [32] else [] : List Int32) = [] := if_neg hi0
    have hp0 := (h.b hw.f (Or.inr (by decide))).2.2.1 i hi
    refine wa_if_le 35 dX6_writePlans_22 rfl (fun c22 => ?_) (fun c22 => absurd (show nI i ≤ nI 0 from nI_leN (by omega) (by omega)) c22)
    refine wa_aload_n dX6_writePlans_35 rfl ?_
    refine g_VR hn 3 dX6_writePlans_36 fl_X6_19 (by decide) rfl ?_
    refine wa_aload_n dX6_writePlans_39 rfl ?_
    refine g_VR hn 4 dX6_writePlans_40 fl_X6_26 (by decide) rfl ?_
    refine g_HO isH_house hn 12 dX6_writePlans_43 fl_X6_211 (by decide) rfl ?_
    refine wa_iload_n dX6_writePlans_46 rfl ?_
    refine s_iald (j := i) (isH_house.pl (o := 2) (by decide) (by decide)) dX6_writePlans_47 (lt_pl isH_house hn) (nI_toInt (by omega)) (by omega) ?_
    rw [hp0.1]
    refine WA_k (Nat.zero_add _) (Nat.zero_add _) ?_
    refine ap_I (K0 := 0) (Z0 := 0) dX6_writePlans_48 lk_X6_312 hn hw hn1 (by decide) (by decide) (by decide) ht1 (by omega) (by exact Nat.le_of_ble_eq_true rfl) (fun n2 S2 j2 f2 k2 z2 b2 w2 => ?_)
    rw [Nat.zero_add, Nat.zero_add]
    obtain ⟨hn2, hm2, hk2, hz2⟩ := w2.lt h0 h7
    have hp2 := (h.b w2.f (Or.inr (by decide))).2.2.1 i hi
    refine wa_bipush (x := 64) dX6_writePlans_51 (by decide) ?_
    refine WA_k (Nat.zero_add _) (Nat.zero_add _) ?_
    refine ap_C (K0 := 0) (Z0 := 0) dX6_writePlans_53 lk_X6_295 hn2 w2 hm2 (by decide) (by decide) (by decide) (by decide) (by simp only [List.length_append, List.length_cons, List.length_nil]; omega) (by exact Nat.le_of_ble_eq_true rfl) (fun n3 S3 j3 f3 k3 z3 b3 w3 => ?_)
    rw [Nat.zero_add, Nat.zero_add]
    obtain ⟨hn3, hm3, hk3, hz3⟩ := w3.lt h0 h7
    have hp3 := (h.b w3.f (Or.inr (by decide))).2.2.1 i hi
    refine wa_aload_n dX6_writePlans_56 rfl ?_
    refine g_VR hn3 4 dX6_writePlans_57 fl_X6_26 (by decide) rfl ?_
    refine g_HO isH_house hn3 13 dX6_writePlans_60 fl_X6_214 (by decide) rfl ?_
    refine wa_iload_n dX6_writePlans_63 rfl ?_
    refine s_iald (j := i) (isH_house.pl (o := 3) (by decide) (by decide)) dX6_writePlans_64 (lt_pl isH_house hn3) (nI_toInt (by omega)) (by omega) ?_
    rw [hp3.2.1]
    refine WA_k (Nat.zero_add _) (Nat.zero_add _) ?_
    refine ap_I (K0 := 0) (Z0 := 0) dX6_writePlans_65 lk_X6_312 hn3 w3 hm3 (by decide) (by decide) (by decide) ht2 (by simp only [List.length_append, List.length_cons, List.length_nil]; omega) (by exact Nat.le_of_ble_eq_true rfl) (fun n4 S4 j4 f4 k4 z4 b4 w4 => ?_)
    rw [Nat.zero_add, Nat.zero_add]
    obtain ⟨hn4, hm4, hk4, hz4⟩ := w4.lt h0 h7
    have hp4 := (h.b w4.f (Or.inr (by decide))).2.2.1 i hi
    refine wa_pop dX6_writePlans_68 rfl ?_
    refine wa_aload_n dX6_writePlans_69 rfl ?_
    refine g_VR hn4 3 dX6_writePlans_70 fl_X6_19 (by decide) rfl ?_
    refine wa_aload_n dX6_writePlans_73 rfl ?_
    refine g_VR hn4 4 dX6_writePlans_74 fl_X6_26 (by decide) rfl ?_
    refine g_HO isH_house hn4 14 dX6_writePlans_77 fl_X6_217 (by decide) rfl ?_
    refine wa_iload_n dX6_writePlans_80 rfl ?_
    refine s_iald (j := i) (isH_house.pl (o := 4) (by decide) (by decide)) dX6_writePlans_81 (lt_pl isH_house hn4) (nI_toInt (by omega)) (by omega) ?_
    rw [hp4.2.2]
    rw [ek]
    refine c_SAh dX6_writePlans_82 (vr_signOf (by omega)) lk_X6_315 rfl ?_
    rw [← ek]
    refine WA_k (Nat.zero_add _) (Nat.zero_add _) ?_
    refine ap_C (K0 := 0) (Z0 := 0) dX6_writePlans_85 lk_X6_295 hn4 w4 hm4 (by decide) (by decide) (by decide) (sgn_lo _) (by simp only [List.length_append, List.length_cons, List.length_nil]; omega) (by exact Nat.le_of_ble_eq_true rfl) (fun n5 S5 j5 f5 k5 z5 b5 w5 => ?_)
    rw [Nat.zero_add, Nat.zero_add]
    obtain ⟨hn5, hm5, hk5, hz5⟩ := w5.lt h0 h7
    have hp5 := (h.b w5.f (Or.inr (by decide))).2.2.1 i hi
    refine wa_pop dX6_writePlans_88 rfl ?_
    refine wa_iinc (y := 1) dX6_writePlans_89 rfl (by decide) rfl ?_
    rw [nI_1 i]
    refine wa_goto 10 dX6_writePlans_92 rfl ?_
    exact ih (i + 1) n5 S5 j5 f5 k5 z5 (by omega) (show WB _ _ _ _ _ _ (plansT g (i + 1)) _ _ from by show WB _ _ _ _ _ _ (plansT g i ++ (if 0 < i then [32] else []) ++ decI (g (11 + 3 * i)) ++ [64] ++ decI (g (11 + 3 * i + 1)) ++ [sgn (g (11 + 3 * i + 2))]) _ _; rw [esp, List.append_nil]; exact w5) hQ
theorem vr_writePlans {n0 m0 j0 : Nat} {S0 : SS} {g f0 : Nat → Int32} {T : Int} (h0 : 279 ≤ n0) (h7 : n0 + 7 ≤ ab_CB) (h : HH S0 34 g (fun _ => True)) (hg : GG T g) (hb0 : SBI n0 S0 m0 j0 f0) (hj5 : j0 ≤ 5) (hrr : ∀ i, i < pn g → (g (11 + 3 * i)).toInt.natAbs < 100000000) (hWT : WPT g) : AM yX6_writePlans cX6_writePlans 2 (some .int) [] 6 5 1200 [.ref 0] n0 (Hp S0) (PMe n0 5 (fun v n' S' => v = nI (plansT g (pn g)).length ∧ WRO n0 S0 (plansT g (pn g)) n' S')) := by
  intro has
  change WA RX6 cX6_writePlans 2 [] _ _ 0 0 0 [some (.ref 0), none] [] n0 _
  refine wa_aload_n dX6_writePlans_0 rfl ?_
  refine g_VR h0 3 dX6_writePlans_1 fl_X6_19 (by decide) rfl ?_
  refine wa_iconst (x := 0) dX6_writePlans_4 (by decide) ?_
  refine wa_callV dX6_writePlans_5 lk_X6_292 (sb_setLength h0 hb0 (by omega) (by omega)) rfl (isO_SB _ _ _) rfl (Or.inl (ltS h0)) (by exact Nat.le_of_ble_eq_true rfl) (by unfold ab_fit ab_rm; refine ⟨?_, ?_, ?_, ?_⟩ <;> simp <;> omega) (by exact Nat.le_of_ble_eq_true rfl) (fun ro n' h' hq _ => ?_) (fun E n' h' q _ => by cases q.1)
  obtain ⟨q1, S1, q2, q3, q4, f1, q5⟩ := hq
  rw [q2, q3]
  cases q1
  refine wa_iconst (x := 0) dX6_writePlans_8 (by decide) ?_
  refine wa_istore_n dX6_writePlans_9 rfl ?_
  exact lpv_wplans h0 h7 (h.b q4 (Or.inr (by decide))) hg hrr hWT (pn g) 0 n0 S1 j0 f1 _ _ (Nat.zero_add _) (WB.st q5 hj5 rfl) (fun n' S' j' f' k' z' w => by
    obtain ⟨a1, a2, a3, a4⟩ := w.lt h0 h7
    have a5 := w.2.2.2.1
    exact ⟨a3, a4, ⟨_, rfl, rfl⟩, _, S', rfl, rfl, by omega, by omega, rfl, q4.tr w.f (Nat.le_refl _), j', f', ⟨w.1, w.2.2.2.2.2.2⟩, w.2.1⟩)
