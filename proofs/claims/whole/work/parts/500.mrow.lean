/-! ValveRoomModel: reading and writing its row. Written by program (wip/whole/gen/m500.py) but for the heads. -/
theorem lg_a {x y : Int64} (h : ¬ lg_cmp x y < 0) : y ≤ x := by
  unfold lg_cmp at h
  by_cases q : x > y
  · exact Int64.le_of_lt q
  · rw [if_neg q] at h
    by_cases e : x = y
    · rw [e]; exact Int64.le_refl _
    · rw [if_neg e] at h; exact absurd (by decide) h
theorem lg_b {x y : Int64} (h : ¬ 0 < lg_cmp x y) : x ≤ y := by
  unfold lg_cmp at h
  by_cases q : x > y
  · rw [if_pos q] at h; exact absurd (by decide) h
  · exact Int64.not_lt.mp q
theorem lg_c {x y : Int64} (h : lg_cmp x y < 0) : ¬ y ≤ x := by
  unfold lg_cmp at h
  by_cases q : x > y
  · rw [if_pos q] at h; exact absurd h (by decide)
  · rw [if_neg q] at h
    by_cases e : x = y
    · rw [if_pos e] at h; exact absurd h (by decide)
    · intro z
      exact e (Int64.le_antisymm (Int64.not_lt.mp q) z)
theorem lg_d {x y : Int64} (h : 0 < lg_cmp x y) : ¬ x ≤ y := by
  unfold lg_cmp at h
  by_cases q : x > y
  · exact Int64.not_le.mpr q
  · rw [if_neg q] at h
    exfalso
    split at h <;> exact absurd h (by decide)
theorem mm_in {n : Nat} {h : ab_H} (v lo hi : Int64) : AM yX7_in cX7_in 6 (some .boolean) [] 0 0 0 [.long v, .long lo, .long hi] n h (PIh (b2i (lo ≤ v ∧ v ≤ hi)) n h) := by
  intro has
  change WA RX7 cX7_in 6 [] _ _ 0 0 0 [some (.long v), none, some (.long lo), none, some (.long hi), none] [] n _
  refine wa_lload_n dX7_in_0 rfl ?_
  refine wa_lload_n dX7_in_1 rfl ?_
  refine wa_lcmp dX7_in_2 ?_
  refine wa_if_lt 17 dX7_in_3 rfl (fun c3 => ?_) (fun c3 => ?_)
  · refine wa_iconst (x := 0) dX7_in_17 (by decide) ?_
    exact wa_ireturn dX7_in_18 ⟨Nat.le_refl _, Nat.le_refl _, ⟨_, rfl, rfl⟩, (by congr 3; unfold b2i; first | (rw [if_pos (by first | exact ⟨lg_a c3, lg_b c10⟩)]; done) | rw [if_neg (by first | exact fun q => lg_c c3 q.1 | exact fun q => lg_d c10 q.2)]), rfl, rfl⟩
  · refine wa_lload_n dX7_in_6 rfl ?_
    refine wa_lload dX7_in_7 rfl ?_
    refine wa_lcmp dX7_in_9 ?_
    refine wa_if_gt 17 dX7_in_10 rfl (fun c10 => ?_) (fun c10 => ?_)
    · refine wa_iconst (x := 0) dX7_in_17 (by decide) ?_
      exact wa_ireturn dX7_in_18 ⟨Nat.le_refl _, Nat.le_refl _, ⟨_, rfl, rfl⟩, (by congr 3; unfold b2i; first | (rw [if_pos (by first | exact ⟨lg_a c3, lg_b c10⟩)]; done) | rw [if_neg (by first | exact fun q => lg_c c3 q.1 | exact fun q => lg_d c10 q.2)]), rfl, rfl⟩
    · refine wa_iconst (x := 1) dX7_in_13 (by decide) ?_
      refine wa_goto 18 dX7_in_14 rfl ?_
      exact wa_ireturn dX7_in_18 ⟨Nat.le_refl _, Nat.le_refl _, ⟨_, rfl, rfl⟩, (by congr 3; unfold b2i; first | (rw [if_pos (by first | exact ⟨lg_a c3, lg_b c10⟩)]; done) | rw [if_neg (by first | exact fun q => lg_c c3 q.1 | exact fun q => lg_d c10 q.2)]), rfl, rfl⟩
theorem mm_thrown {n : Nat} {S : SS} (hn : 279 ≤ n) : AM yX7_thrown cX7_thrown 1 (some .int) [] 0 0 0 [.ref 267] n (Hp S) (PI (S.1 267 0) n S) := by
  intro has
  change WA RX7 cX7_thrown 1 [] _ _ 0 0 0 [some (.ref 267)] [] n _
  refine wa_aload_n dX7_thrown_0 rfl ?_
  refine g_MO (by assumption) 0 dX7_thrown_1 fl_X7_3 (by decide) rfl ?_
  exact wa_ireturn dX7_thrown_4 ⟨Nat.le_refl _, Nat.le_refl _, ⟨_, rfl, rfl⟩, rfl, rfl, rfl⟩
theorem mm_rooms {n : Nat} {S : SS} (hn : 279 ≤ n) : AM yX7_rooms cX7_rooms 1 (some .int) [] 0 0 0 [.ref 267] n (Hp S) (PI (S.1 (mr S) 0) n S) := by
  intro has
  change WA RX7 cX7_rooms 1 [] _ _ 0 0 0 [some (.ref 267)] [] n _
  refine wa_aload_n dX7_rooms_0 rfl ?_
  refine g_row (by assumption) dX7_rooms_1 fl_X7_24 ?_
  refine wa_iconst (x := 0) dX7_rooms_4 (by decide) ?_
  refine s_iald (j := 0) isA_mr dX7_rooms_5 (lt_mr (by assumption)) rfl (by decide) ?_
  exact wa_ireturn dX7_rooms_6 ⟨Nat.le_refl _, Nat.le_refl _, ⟨_, rfl, rfl⟩, rfl, rfl, rfl⟩
theorem ix_of {i w : Nat} (hi : i < 6) (hw : w < 66) : ((71 : Int32) + 66 * nI i + nI w).toInt = ((71 + 66 * i + w : Nat) : Int) := by
  have e : ((71 : Int32) + 66 * nI i + nI w) = nI (71 + 66 * i + w) := by
    rw [show (71 : Int32) = nI 71 from rfl, show (66 : Int32) = nI 66 from rfl]
    have : nI 66 * nI i = nI (66 * i) := by
      unfold nI
      exact (Int32.ofNat_mul 66 i).symm
    rw [this, nI_add, nI_add]
  rw [e, nI_toInt (by omega)]
theorem ix_pl {k w : Nat} (hk : k < 21) (hw : w < 3) : ((11 : Int32) + 3 * nI k + nI w).toInt = ((11 + 3 * k + w : Nat) : Int) := by
  have e : ((11 : Int32) + 3 * nI k + nI w) = nI (11 + 3 * k + w) := by
    rw [show (11 : Int32) = nI 11 from rfl, show (3 : Int32) = nI 3 from rfl]
    have : nI 3 * nI k = nI (3 * k) := by
      unfold nI
      exact (Int32.ofNat_mul 3 k).symm
    rw [this, nI_add, nI_add]
  rw [e, nI_toInt (by omega)]
theorem mm_of {n i w : Nat} {S : SS} (hn : 279 ≤ n) (hi : i < 6) (hw : w < 66) : AM yX7_of cX7_of 3 (some .int) [] 0 0 0 [.ref 267, .int (nI i), .int (nI w)] n (Hp S) (PI (S.1 (mr S) (71 + 66 * i + w)) n S) := by
  intro has
  change WA RX7 cX7_of 3 [] _ _ 0 0 0 [some (.ref 267), some (.int (nI i)), some (.int (nI w))] [] n _
  refine wa_aload_n dX7_of_0 rfl ?_
  refine g_row (by assumption) dX7_of_1 fl_X7_24 ?_
  refine wa_bipush (x := 71) dX7_of_4 (by decide) ?_
  refine wa_bipush (x := 66) dX7_of_6 (by decide) ?_
  refine wa_iload_n dX7_of_8 rfl ?_
  refine wa_imul dX7_of_9 ?_
  refine wa_iadd dX7_of_10 ?_
  refine wa_iload_n dX7_of_11 rfl ?_
  refine wa_iadd dX7_of_12 ?_
  refine s_iald (j := 71 + 66 * i + w) isA_mr dX7_of_13 (lt_mr (by assumption)) (ix_of hi hw) (by omega) ?_
  exact wa_ireturn dX7_of_14 ⟨Nat.le_refl _, Nat.le_refl _, ⟨_, rfl, rfl⟩, rfl, rfl, rfl⟩
theorem mm_put {n i w : Nat} {S : SS} (hn : 279 ≤ n) (hi : i < 6) (hw : w < 66) (x : Int32) : AM yX7_put cX7_put 4 none [] 0 0 0 [.ref 267, .int (nI i), .int (nI w), .int x] n (Hp S) (PV n (ss S (mr S) (71 + 66 * i + w) x)) := by
  intro has
  change WA RX7 cX7_put 4 [] _ _ 0 0 0 [some (.ref 267), some (.int (nI i)), some (.int (nI w)), some (.int x)] [] n _
  refine wa_aload_n dX7_put_0 rfl ?_
  refine g_row (by assumption) dX7_put_1 fl_X7_24 ?_
  refine wa_bipush (x := 71) dX7_put_4 (by decide) ?_
  refine wa_bipush (x := 66) dX7_put_6 (by decide) ?_
  refine wa_iload_n dX7_put_8 rfl ?_
  refine wa_imul dX7_put_9 ?_
  refine wa_iadd dX7_put_10 ?_
  refine wa_iload_n dX7_put_11 rfl ?_
  refine wa_iadd dX7_put_12 ?_
  refine wa_iload_n dX7_put_13 rfl ?_
  refine s_iast (j := 71 + 66 * i + w) isA_mr dX7_put_14 (lt_mr (by assumption)) (ix_of hi hw) (by omega) ?_
  exact wa_return dX7_put_15 ⟨Nat.le_refl _, Nat.le_refl _, rfl, rfl, rfl, rfl⟩
theorem mm_add {n i w : Nat} {S : SS} (hn : 279 ≤ n) (hi : i < 6) (hw : w < 66) (x : Int32) : AM yX7_add cX7_add 4 none [] 0 0 0 [.ref 267, .int (nI i), .int (nI w), .int x] n (Hp S) (PV n (ss S (mr S) (71 + 66 * i + w) (S.1 (mr S) (71 + 66 * i + w) + x))) := by
  intro has
  change WA RX7 cX7_add 4 [] _ _ 0 0 0 [some (.ref 267), some (.int (nI i)), some (.int (nI w)), some (.int x)] [] n _
  refine wa_aload_n dX7_add_0 rfl ?_
  refine g_row (by assumption) dX7_add_1 fl_X7_24 ?_
  refine wa_bipush (x := 71) dX7_add_4 (by decide) ?_
  refine wa_bipush (x := 66) dX7_add_6 (by decide) ?_
  refine wa_iload_n dX7_add_8 rfl ?_
  refine wa_imul dX7_add_9 ?_
  refine wa_iadd dX7_add_10 ?_
  refine wa_iload_n dX7_add_11 rfl ?_
  refine wa_iadd dX7_add_12 ?_
  refine wa_dup2 dX7_add_13 rfl rfl ?_
  refine s_iald (j := 71 + 66 * i + w) isA_mr dX7_add_14 (lt_mr (by assumption)) (ix_of hi hw) (by omega) ?_
  refine wa_iload_n dX7_add_15 rfl ?_
  refine wa_iadd dX7_add_16 ?_
  refine s_iast (j := 71 + 66 * i + w) isA_mr dX7_add_17 (lt_mr (by assumption)) (ix_of hi hw) (by omega) ?_
  exact wa_return dX7_add_18 ⟨Nat.le_refl _, Nat.le_refl _, rfl, rfl, rfl, rfl⟩
theorem mm_counts {n i w : Nat} {S : SS} (hn : 279 ≤ n) (hi : i < 6) (hw : w < 6) : AM yX7_counts cX7_counts 3 none [] 1 0 0 [.ref 267, .int (nI i), .int (nI w)] n (Hp S) (PV n (ss S (mr S) (71 + 66 * i + (12 + w)) (S.1 (mr S) (71 + 66 * i + (12 + w)) + 1))) := by
  intro has
  change WA RX7 cX7_counts 3 [] _ _ 0 0 0 [some (.ref 267), some (.int (nI i)), some (.int (nI w))] [] n _
  refine wa_aload_n dX7_counts_0 rfl ?_
  refine wa_iload_n dX7_counts_1 rfl ?_
  refine wa_bipush (x := 12) dX7_counts_2 (by decide) ?_
  refine wa_iload_n dX7_counts_4 rfl ?_
  refine wa_iadd dX7_counts_5 ?_
  rw [show (12 : Int32) + nI w = nI (12 + w) from nI_add 12 w]
  refine wa_iconst (x := 1) dX7_counts_6 (by decide) ?_
  refine c_VV dX7_counts_7 (mm_add (by assumption) hi (by omega) 1) lk_X7_64 rfl (isO_MO _ _ _) rfl (ltS (by assumption)) ?_
  exact wa_return dX7_counts_10 ⟨Nat.le_refl _, Nat.le_refl _, rfl, rfl, rfl, rfl⟩
theorem mm_ofPlan {n k w : Nat} {S : SS} (hn : 279 ≤ n) (hk : k < 20) (hw : w < 3) : AM yX7_ofPlan cX7_ofPlan 3 (some .int) [] 0 0 0 [.ref 267, .int (nI k), .int (nI w)] n (Hp S) (PI (S.1 (mr S) (11 + 3 * k + w)) n S) := by
  intro has
  change WA RX7 cX7_ofPlan 3 [] _ _ 0 0 0 [some (.ref 267), some (.int (nI k)), some (.int (nI w))] [] n _
  refine wa_aload_n dX7_ofPlan_0 rfl ?_
  refine g_row (by assumption) dX7_ofPlan_1 fl_X7_24 ?_
  refine wa_bipush (x := 11) dX7_ofPlan_4 (by decide) ?_
  refine wa_iconst (x := 3) dX7_ofPlan_6 (by decide) ?_
  refine wa_iload_n dX7_ofPlan_7 rfl ?_
  refine wa_imul dX7_ofPlan_8 ?_
  refine wa_iadd dX7_ofPlan_9 ?_
  refine wa_iload_n dX7_ofPlan_10 rfl ?_
  refine wa_iadd dX7_ofPlan_11 ?_
  refine s_iald (j := 11 + 3 * k + w) isA_mr dX7_ofPlan_12 (lt_mr (by assumption)) (ix_pl (by omega) hw) (by omega) ?_
  exact wa_ireturn dX7_ofPlan_13 ⟨Nat.le_refl _, Nat.le_refl _, ⟨_, rfl, rfl⟩, rfl, rfl, rfl⟩
theorem mm_programAt {n i t : Nat} {S : SS} (hn : 279 ≤ n) (hi : i < 6) (ht : t < 48) : AM yX7_programAt cX7_programAt 3 (some .int) [] 1 0 0 [.ref 267, .int (nI i), .int (nI t)] n (Hp S) (PI (S.1 (mr S) (71 + 66 * i + (18 + t))) n S) := by
  intro has
  change WA RX7 cX7_programAt 3 [] _ _ 0 0 0 [some (.ref 267), some (.int (nI i)), some (.int (nI t))] [] n _
  refine wa_aload_n dX7_programAt_0 rfl ?_
  refine wa_iload_n dX7_programAt_1 rfl ?_
  refine wa_bipush (x := 18) dX7_programAt_2 (by decide) ?_
  refine wa_iload_n dX7_programAt_4 rfl ?_
  refine wa_iadd dX7_programAt_5 ?_
  rw [show (18 : Int32) + nI t = nI (18 + t) from nI_add 18 t]
  refine c_VI dX7_programAt_6 (mm_of (by assumption) hi (by omega)) lk_X7_68 rfl (isO_MO _ _ _) rfl (ltS (by assumption)) ?_
  exact wa_ireturn dX7_programAt_9 ⟨Nat.le_refl _, Nat.le_refl _, ⟨_, rfl, rfl⟩, rfl, rfl, rfl⟩
abbrev p3 (a b c : Int32) : Int32 := if a = 0 then 1 else if b = 0 then 2 else if c = 0 then 3 else 0
theorem mm_passes3 {n : Nat} {S : SS} (hn : 279 ≤ n) (a b c : Int32) : AM yX7_passes3 cX7_passes3 4 (some .boolean) [] 0 0 0 [.ref 267, .int a, .int b, .int c] n (Hp S) (PI (b2i (p3 a b c = 0)) n (ss S 267 0 (p3 a b c))) := by
  intro has
  change WA RX7 cX7_passes3 4 [] _ _ 0 0 0 [some (.ref 267), some (.int a), some (.int b), some (.int c)] [] n _
  refine wa_aload_n dX7_passes3_0 rfl ?_
  refine wa_iload_n dX7_passes3_1 rfl ?_
  refine wa_if_ne 9 dX7_passes3_2 rfl (fun c2 => ?_) (fun c2 => ?_)
  · refine wa_iload_n dX7_passes3_9 rfl ?_
    refine wa_if_ne 17 dX7_passes3_10 rfl (fun c10 => ?_) (fun c10 => ?_)
    · refine wa_iload_n dX7_passes3_17 rfl ?_
      refine wa_if_ne 25 dX7_passes3_18 rfl (fun c18 => ?_) (fun c18 => ?_)
      · refine wa_iconst (x := 0) dX7_passes3_25 (by decide) ?_
        refine p_MO (by assumption) 0 dX7_passes3_26 fl_X7_3 (by decide) rfl rfl rfl rfl (fun _ _ _ => rfl) (Nat.le_of_ble_eq_true rfl) ?_
        refine wa_aload_n dX7_passes3_29 rfl ?_
        refine g_MO (by assumption) 0 dX7_passes3_30 fl_X7_3 (by decide) rfl ?_
        refine wa_if_ne 40 dX7_passes3_33 rfl (fun c33 => ?_) (fun c33 => ?_)
        · refine wa_iconst (x := 0) dX7_passes3_40 (by decide) ?_
          exact wa_ireturn dX7_passes3_41 ⟨Nat.le_refl _, Nat.le_refl _, ⟨_, rfl, rfl⟩, by simp_all [p3, b2i, ss_1], rfl, congrArg Hp (by simp_all [p3])⟩
        · refine wa_iconst (x := 1) dX7_passes3_36 (by decide) ?_
          refine wa_goto 41 dX7_passes3_37 rfl ?_
          exact wa_ireturn dX7_passes3_41 ⟨Nat.le_refl _, Nat.le_refl _, ⟨_, rfl, rfl⟩, by simp_all [p3, b2i, ss_1], rfl, congrArg Hp (by simp_all [p3])⟩
      · refine wa_iconst (x := 3) dX7_passes3_21 (by decide) ?_
        refine wa_goto 26 dX7_passes3_22 rfl ?_
        refine p_MO (by assumption) 0 dX7_passes3_26 fl_X7_3 (by decide) rfl rfl rfl rfl (fun _ _ _ => rfl) (Nat.le_of_ble_eq_true rfl) ?_
        refine wa_aload_n dX7_passes3_29 rfl ?_
        refine g_MO (by assumption) 0 dX7_passes3_30 fl_X7_3 (by decide) rfl ?_
        refine wa_if_ne 40 dX7_passes3_33 rfl (fun c33 => ?_) (fun c33 => ?_)
        · refine wa_iconst (x := 0) dX7_passes3_40 (by decide) ?_
          exact wa_ireturn dX7_passes3_41 ⟨Nat.le_refl _, Nat.le_refl _, ⟨_, rfl, rfl⟩, by simp_all [p3, b2i, ss_1], rfl, congrArg Hp (by simp_all [p3])⟩
        · refine wa_iconst (x := 1) dX7_passes3_36 (by decide) ?_
          refine wa_goto 41 dX7_passes3_37 rfl ?_
          exact wa_ireturn dX7_passes3_41 ⟨Nat.le_refl _, Nat.le_refl _, ⟨_, rfl, rfl⟩, by simp_all [p3, b2i, ss_1], rfl, congrArg Hp (by simp_all [p3])⟩
    · refine wa_iconst (x := 2) dX7_passes3_13 (by decide) ?_
      refine wa_goto 26 dX7_passes3_14 rfl ?_
      refine p_MO (by assumption) 0 dX7_passes3_26 fl_X7_3 (by decide) rfl rfl rfl rfl (fun _ _ _ => rfl) (Nat.le_of_ble_eq_true rfl) ?_
      refine wa_aload_n dX7_passes3_29 rfl ?_
      refine g_MO (by assumption) 0 dX7_passes3_30 fl_X7_3 (by decide) rfl ?_
      refine wa_if_ne 40 dX7_passes3_33 rfl (fun c33 => ?_) (fun c33 => ?_)
      · refine wa_iconst (x := 0) dX7_passes3_40 (by decide) ?_
        exact wa_ireturn dX7_passes3_41 ⟨Nat.le_refl _, Nat.le_refl _, ⟨_, rfl, rfl⟩, by simp_all [p3, b2i, ss_1], rfl, congrArg Hp (by simp_all [p3])⟩
      · refine wa_iconst (x := 1) dX7_passes3_36 (by decide) ?_
        refine wa_goto 41 dX7_passes3_37 rfl ?_
        exact wa_ireturn dX7_passes3_41 ⟨Nat.le_refl _, Nat.le_refl _, ⟨_, rfl, rfl⟩, by simp_all [p3, b2i, ss_1], rfl, congrArg Hp (by simp_all [p3])⟩
  · refine wa_iconst (x := 1) dX7_passes3_5 (by decide) ?_
    refine wa_goto 26 dX7_passes3_6 rfl ?_
    refine p_MO (by assumption) 0 dX7_passes3_26 fl_X7_3 (by decide) rfl rfl rfl rfl (fun _ _ _ => rfl) (Nat.le_of_ble_eq_true rfl) ?_
    refine wa_aload_n dX7_passes3_29 rfl ?_
    refine g_MO (by assumption) 0 dX7_passes3_30 fl_X7_3 (by decide) rfl ?_
    refine wa_if_ne 40 dX7_passes3_33 rfl (fun c33 => ?_) (fun c33 => ?_)
    · refine wa_iconst (x := 0) dX7_passes3_40 (by decide) ?_
      exact wa_ireturn dX7_passes3_41 ⟨Nat.le_refl _, Nat.le_refl _, ⟨_, rfl, rfl⟩, by simp_all [p3, b2i, ss_1], rfl, congrArg Hp (by simp_all [p3])⟩
    · refine wa_iconst (x := 1) dX7_passes3_36 (by decide) ?_
      refine wa_goto 41 dX7_passes3_37 rfl ?_
      exact wa_ireturn dX7_passes3_41 ⟨Nat.le_refl _, Nat.le_refl _, ⟨_, rfl, rfl⟩, by simp_all [p3, b2i, ss_1], rfl, congrArg Hp (by simp_all [p3])⟩
theorem mm_passes2 {n : Nat} {S : SS} (hn : 279 ≤ n) (a b : Int32) : AM yX7_passes2 cX7_passes2 3 (some .boolean) [] 1 0 0 [.ref 267, .int a, .int b] n (Hp S) (PI (b2i (p3 a b 1 = 0)) n (ss S 267 0 (p3 a b 1))) := by
  intro has
  change WA RX7 cX7_passes2 3 [] _ _ 0 0 0 [some (.ref 267), some (.int a), some (.int b)] [] n _
  refine wa_aload_n dX7_passes2_0 rfl ?_
  refine wa_iload_n dX7_passes2_1 rfl ?_
  refine wa_iload_n dX7_passes2_2 rfl ?_
  refine wa_iconst (x := 1) dX7_passes2_3 (by decide) ?_
  refine c_VI dX7_passes2_4 (mm_passes3 (by assumption) a b 1) lk_X7_7 rfl (isO_MO _ _ _) rfl (ltS (by assumption)) ?_
  exact wa_ireturn dX7_passes2_7 ⟨Nat.le_refl _, Nat.le_refl _, ⟨_, rfl, by unfold b2i; split <;> rfl⟩, rfl, rfl, rfl⟩
theorem mm_passes {n : Nat} {S : SS} (hn : 279 ≤ n) (a : Int32) : AM yX7_passes cX7_passes 2 (some .boolean) [] 1 0 0 [.ref 267, .int a] n (Hp S) (PI (b2i (p3 a 1 1 = 0)) n (ss S 267 0 (p3 a 1 1))) := by
  intro has
  change WA RX7 cX7_passes 2 [] _ _ 0 0 0 [some (.ref 267), some (.int a)] [] n _
  refine wa_aload_n dX7_passes_0 rfl ?_
  refine wa_iload_n dX7_passes_1 rfl ?_
  refine wa_iconst (x := 1) dX7_passes_2 (by decide) ?_
  refine wa_iconst (x := 1) dX7_passes_3 (by decide) ?_
  refine c_VI dX7_passes_4 (mm_passes3 (by assumption) a 1 1) lk_X7_7 rfl (isO_MO _ _ _) rfl (ltS (by assumption)) ?_
  exact wa_ireturn dX7_passes_7 ⟨Nat.le_refl _, Nat.le_refl _, ⟨_, rfl, by unfold b2i; split <;> rfl⟩, rfl, rfl, rfl⟩
