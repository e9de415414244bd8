/-! ValveRoomModel: plan, setControl, clearProgram, entry, bestGain, exerciseIn. Written by program (wip/whole/gen/m597.py) but for the heads. -/
theorem i64_add {x c : Int32} (h1 : -2147483648 ≤ x.toInt + c.toInt) (h2 : x.toInt + c.toInt ≤ 2147483647) : x.toInt64 + c.toInt64 = (x + c).toInt64 := by
  refine Int64.toInt_inj.mp ?_
  rw [Int64.toInt_add, Int32.toInt_toInt64, Int32.toInt_toInt64, Int32.toInt_toInt64, i_add h1 h2]
  exact Int.bmod_eq_of_le (by omega) (by omega)
theorem p3_g1 {P : Prop} [Decidable P] {x y : Int32} (h : ¬ P) : p3 (b2i P) x y = 1 := by
  rw [b2i_0 h]; rfl
theorem p3_g2 {P : Prop} [Decidable P] {y : Int32} (h : P) : p3 (b2i P) 0 y = 2 := by
  rw [b2i_1 h]; rfl
theorem p3_g3 {P : Prop} [Decidable P] (h : P) : p3 (b2i P) 1 0 = 3 := by
  rw [b2i_1 h]; rfl
theorem VG_prog {T : Int} {g : Nat → Int32} {i t : Nat} {v : Int32} (h : VG T g) (ht : t < 48) (hv : v = 0 ∨ (50 ≤ v.toInt ∧ v.toInt ≤ 300)) : VG T (pt g i (18 + t) v) := by
  have lo (k : Nat) (hk : k < 71) : pt g i (18 + t) v k = g k := pt_lo g v hk
  have ep : pn (pt g i (18 + t) v) = pn g := congrArg (fun x : Int32 => x.toInt.toNat) (lo 3 (by decide))
  have hp := (VG_pn h).2
  refine ⟨by rw [lo 1 (by decide)]; exact h.1, by rw [lo 0 (by decide)]; exact h.2.1, by rw [lo 3 (by decide)]; exact h.2.2.1, fun k hk => ?_, fun i' => ⟨fun t' ht' => if_neg (by omega), fun t' => ?_⟩⟩
  · rw [ep] at hk
    rw [lo _ (by omega)]
    exact h.2.2.2.1 k hk
  · by_cases h48 : t' < 48
    · have e : pg (pt g i (18 + t) v) i' t' = if i' = i ∧ 18 + t' = 18 + t then v else of g i' (18 + t') := (if_pos h48).trans (of_pt g v (by omega) (by omega))
      rw [e]
      split
      · exact hv
      · have := (h.2.2.2.2 i').2 t'
        unfold pg at this
        rw [if_pos h48] at this
        exact this
    · left
      exact if_neg h48
theorem mm_plan_1 {n : Nat} {S : SS} {T : Int} (hn : 279 ≤ n) (hm : mr S = 268) (hV : VG T (S.1 268)) (hT : T < 2147400000) (t r kk : Int32) (h1 : ¬ rk S r) : AM yX7_plan cX7_plan 5 (some .int) [] 2 0 0 [.ref 267, .int t, .int r, .int kk] n (Hp S) (PI 0 n (th S 1)) := by
  intro has
  change WA RX7 cX7_plan 5 [] _ _ 0 0 0 [some (.ref 267), some (.int t), some (.int r), some (.int kk), none] [] n _
  have hVr : VG T (row S) := by rw [row_net hm]; exact hV
  have hx := hV.1
  have e1i : (1 : Int32).toInt = 1 := by decide
  have e9i : (9999 : Int32).toInt = 9999 := by decide
  have e64a : (S.1 268 1).toInt64 + 1 = (S.1 268 1 + 1).toInt64 := i64_add (c := 1) (by omega) (by omega)
  have e64b : (S.1 268 1).toInt64 + 9999 = (S.1 268 1 + 9999).toInt64 := i64_add (c := 9999) (by omega) (by omega)
  refine wa_iload_n dX7_plan_0 rfl ?_
  refine wa_i2l dX7_plan_1 ?_
  refine wa_aload_n dX7_plan_2 rfl ?_
  refine g_MO (by assumption) 1 dX7_plan_3 fl_X7_17 (by decide) rfl ?_
  refine wa_iconst (x := 1) dX7_plan_6 (by decide) ?_
  refine s_iald (j := 1) isA_net dX7_plan_7 (ltS (by assumption)) rfl (by decide) ?_
  refine wa_i2l dX7_plan_8 ?_
  refine wa_lconst (x := 1) dX7_plan_9 (by decide) ?_
  refine wa_ladd dX7_plan_10 ?_
  refine wa_aload_n dX7_plan_11 rfl ?_
  refine g_MO (by assumption) 1 dX7_plan_12 fl_X7_17 (by decide) rfl ?_
  refine wa_iconst (x := 1) dX7_plan_15 (by decide) ?_
  refine s_iald (j := 1) isA_net dX7_plan_16 (ltS (by assumption)) rfl (by decide) ?_
  refine wa_i2l dX7_plan_17 ?_
  refine wa_ldc2 dX7_plan_18 wv_X7_413 ?_
  refine wa_ladd dX7_plan_21 ?_
  refine c_SI dX7_plan_22 (mm_inI (a := t) (b := S.1 268 1 + 1) (c := S.1 268 1 + 9999) e64a e64b) lk_X7_60 rfl ?_
  refine wa_if_eq 44 dX7_plan_25 rfl (fun c25 => ?_) (fun c25 => ?_)
  · refine wa_iconst (x := 0) dX7_plan_44 (by decide) ?_
    refine wa_istore dX7_plan_45 rfl ?_
    refine wa_aload_n dX7_plan_47 rfl ?_
    refine wa_aload_n dX7_plan_48 rfl ?_
    refine wa_iload_n dX7_plan_49 rfl ?_
    refine c_VI dX7_plan_50 (mm_isRoom (by assumption) hVr _) lk_X7_347 rfl (isO_MO _ _ _) rfl (ltS (by assumption)) ?_
    refine wa_iload dX7_plan_53 rfl ?_
    refine wa_aload_n dX7_plan_55 rfl ?_
    refine g_MO (by assumption) 1 dX7_plan_56 fl_X7_17 (by decide) rfl ?_
    refine wa_iconst (x := 3) dX7_plan_59 (by decide) ?_
    refine s_iald (j := 3) isA_net dX7_plan_60 (ltS (by assumption)) rfl (by decide) ?_
    refine wa_bipush (x := 20) dX7_plan_61 (by decide) ?_
    refine wa_icmp_ge 70 dX7_plan_63 rfl (fun c63 => ?_) (fun c63 => ?_)
    · refine wa_iconst (x := 0) dX7_plan_70 (by decide) ?_
      refine c_VI dX7_plan_71 (mm_passes3 (by assumption) _ _ _) lk_X7_7 rfl (isO_MO _ _ _) rfl (ltS (by assumption)) ?_
      rw [p3_g1 h1, b2i_0 (by decide)]
      refine wa_if_ne 79 dX7_plan_74 rfl (fun c74 => absurd rfl c74) (fun c74 => ?_)
      refine wa_iconst (x := 0) dX7_plan_77 (by decide) ?_
      exact wa_ireturn dX7_plan_78 ⟨Nat.le_refl _, Nat.le_refl _, ⟨_, rfl, rfl⟩, rfl, rfl, rfl⟩
    · refine wa_iconst (x := 1) dX7_plan_66 (by decide) ?_
      refine wa_goto 71 dX7_plan_67 rfl ?_
      refine c_VI dX7_plan_71 (mm_passes3 (by assumption) _ _ _) lk_X7_7 rfl (isO_MO _ _ _) rfl (ltS (by assumption)) ?_
      rw [p3_g1 h1, b2i_0 (by decide)]
      refine wa_if_ne 79 dX7_plan_74 rfl (fun c74 => absurd rfl c74) (fun c74 => ?_)
      refine wa_iconst (x := 0) dX7_plan_77 (by decide) ?_
      exact wa_ireturn dX7_plan_78 ⟨Nat.le_refl _, Nat.le_refl _, ⟨_, rfl, rfl⟩, rfl, rfl, rfl⟩
  · refine wa_iload_n dX7_plan_28 rfl ?_
    refine wa_i2l dX7_plan_29 ?_
    refine wa_lconst (x := 0) dX7_plan_30 (by decide) ?_
    refine wa_ldc2 dX7_plan_31 wv_X7_415 ?_
    refine c_SI dX7_plan_34 (mm_inI (a := kk) (b := 0) (c := 3) (by decide) (by decide)) lk_X7_60 rfl ?_
    refine wa_if_eq 44 dX7_plan_37 rfl (fun c37 => ?_) (fun c37 => ?_)
    · refine wa_iconst (x := 0) dX7_plan_44 (by decide) ?_
      refine wa_istore dX7_plan_45 rfl ?_
      refine wa_aload_n dX7_plan_47 rfl ?_
      refine wa_aload_n dX7_plan_48 rfl ?_
      refine wa_iload_n dX7_plan_49 rfl ?_
      refine c_VI dX7_plan_50 (mm_isRoom (by assumption) hVr _) lk_X7_347 rfl (isO_MO _ _ _) rfl (ltS (by assumption)) ?_
      refine wa_iload dX7_plan_53 rfl ?_
      refine wa_aload_n dX7_plan_55 rfl ?_
      refine g_MO (by assumption) 1 dX7_plan_56 fl_X7_17 (by decide) rfl ?_
      refine wa_iconst (x := 3) dX7_plan_59 (by decide) ?_
      refine s_iald (j := 3) isA_net dX7_plan_60 (ltS (by assumption)) rfl (by decide) ?_
      refine wa_bipush (x := 20) dX7_plan_61 (by decide) ?_
      refine wa_icmp_ge 70 dX7_plan_63 rfl (fun c63 => ?_) (fun c63 => ?_)
      · refine wa_iconst (x := 0) dX7_plan_70 (by decide) ?_
        refine c_VI dX7_plan_71 (mm_passes3 (by assumption) _ _ _) lk_X7_7 rfl (isO_MO _ _ _) rfl (ltS (by assumption)) ?_
        rw [p3_g1 h1, b2i_0 (by decide)]
        refine wa_if_ne 79 dX7_plan_74 rfl (fun c74 => absurd rfl c74) (fun c74 => ?_)
        refine wa_iconst (x := 0) dX7_plan_77 (by decide) ?_
        exact wa_ireturn dX7_plan_78 ⟨Nat.le_refl _, Nat.le_refl _, ⟨_, rfl, rfl⟩, rfl, rfl, rfl⟩
      · refine wa_iconst (x := 1) dX7_plan_66 (by decide) ?_
        refine wa_goto 71 dX7_plan_67 rfl ?_
        refine c_VI dX7_plan_71 (mm_passes3 (by assumption) _ _ _) lk_X7_7 rfl (isO_MO _ _ _) rfl (ltS (by assumption)) ?_
        rw [p3_g1 h1, b2i_0 (by decide)]
        refine wa_if_ne 79 dX7_plan_74 rfl (fun c74 => absurd rfl c74) (fun c74 => ?_)
        refine wa_iconst (x := 0) dX7_plan_77 (by decide) ?_
        exact wa_ireturn dX7_plan_78 ⟨Nat.le_refl _, Nat.le_refl _, ⟨_, rfl, rfl⟩, rfl, rfl, rfl⟩
    · refine wa_iconst (x := 1) dX7_plan_40 (by decide) ?_
      refine wa_goto 45 dX7_plan_41 rfl ?_
      refine wa_istore dX7_plan_45 rfl ?_
      refine wa_aload_n dX7_plan_47 rfl ?_
      refine wa_aload_n dX7_plan_48 rfl ?_
      refine wa_iload_n dX7_plan_49 rfl ?_
      refine c_VI dX7_plan_50 (mm_isRoom (by assumption) hVr _) lk_X7_347 rfl (isO_MO _ _ _) rfl (ltS (by assumption)) ?_
      refine wa_iload dX7_plan_53 rfl ?_
      refine wa_aload_n dX7_plan_55 rfl ?_
      refine g_MO (by assumption) 1 dX7_plan_56 fl_X7_17 (by decide) rfl ?_
      refine wa_iconst (x := 3) dX7_plan_59 (by decide) ?_
      refine s_iald (j := 3) isA_net dX7_plan_60 (ltS (by assumption)) rfl (by decide) ?_
      refine wa_bipush (x := 20) dX7_plan_61 (by decide) ?_
      refine wa_icmp_ge 70 dX7_plan_63 rfl (fun c63 => ?_) (fun c63 => ?_)
      · refine wa_iconst (x := 0) dX7_plan_70 (by decide) ?_
        refine c_VI dX7_plan_71 (mm_passes3 (by assumption) _ _ _) lk_X7_7 rfl (isO_MO _ _ _) rfl (ltS (by assumption)) ?_
        rw [p3_g1 h1, b2i_0 (by decide)]
        refine wa_if_ne 79 dX7_plan_74 rfl (fun c74 => absurd rfl c74) (fun c74 => ?_)
        refine wa_iconst (x := 0) dX7_plan_77 (by decide) ?_
        exact wa_ireturn dX7_plan_78 ⟨Nat.le_refl _, Nat.le_refl _, ⟨_, rfl, rfl⟩, rfl, rfl, rfl⟩
      · refine wa_iconst (x := 1) dX7_plan_66 (by decide) ?_
        refine wa_goto 71 dX7_plan_67 rfl ?_
        refine c_VI dX7_plan_71 (mm_passes3 (by assumption) _ _ _) lk_X7_7 rfl (isO_MO _ _ _) rfl (ltS (by assumption)) ?_
        rw [p3_g1 h1, b2i_0 (by decide)]
        refine wa_if_ne 79 dX7_plan_74 rfl (fun c74 => absurd rfl c74) (fun c74 => ?_)
        refine wa_iconst (x := 0) dX7_plan_77 (by decide) ?_
        exact wa_ireturn dX7_plan_78 ⟨Nat.le_refl _, Nat.le_refl _, ⟨_, rfl, rfl⟩, rfl, rfl, rfl⟩
theorem mm_plan_2 {n : Nat} {S : SS} {T : Int} (hn : 279 ≤ n) (hm : mr S = 268) (hV : VG T (S.1 268)) (hT : T < 2147400000) (t r kk : Int32) (h1 : rk S r) (h2 : ¬ (inr t (S.1 268 1 + 1) (S.1 268 1 + 9999) ∧ inr kk 0 3)) : AM yX7_plan cX7_plan 5 (some .int) [] 2 0 0 [.ref 267, .int t, .int r, .int kk] n (Hp S) (PI 0 n (th S 2)) := by
  intro has
  change WA RX7 cX7_plan 5 [] _ _ 0 0 0 [some (.ref 267), some (.int t), some (.int r), some (.int kk), none] [] n _
  have hVr : VG T (row S) := by rw [row_net hm]; exact hV
  have hx := hV.1
  have e1i : (1 : Int32).toInt = 1 := by decide
  have e9i : (9999 : Int32).toInt = 9999 := by decide
  have e64a : (S.1 268 1).toInt64 + 1 = (S.1 268 1 + 1).toInt64 := i64_add (c := 1) (by omega) (by omega)
  have e64b : (S.1 268 1).toInt64 + 9999 = (S.1 268 1 + 9999).toInt64 := i64_add (c := 9999) (by omega) (by omega)
  refine wa_iload_n dX7_plan_0 rfl ?_
  refine wa_i2l dX7_plan_1 ?_
  refine wa_aload_n dX7_plan_2 rfl ?_
  refine g_MO (by assumption) 1 dX7_plan_3 fl_X7_17 (by decide) rfl ?_
  refine wa_iconst (x := 1) dX7_plan_6 (by decide) ?_
  refine s_iald (j := 1) isA_net dX7_plan_7 (ltS (by assumption)) rfl (by decide) ?_
  refine wa_i2l dX7_plan_8 ?_
  refine wa_lconst (x := 1) dX7_plan_9 (by decide) ?_
  refine wa_ladd dX7_plan_10 ?_
  refine wa_aload_n dX7_plan_11 rfl ?_
  refine g_MO (by assumption) 1 dX7_plan_12 fl_X7_17 (by decide) rfl ?_
  refine wa_iconst (x := 1) dX7_plan_15 (by decide) ?_
  refine s_iald (j := 1) isA_net dX7_plan_16 (ltS (by assumption)) rfl (by decide) ?_
  refine wa_i2l dX7_plan_17 ?_
  refine wa_ldc2 dX7_plan_18 wv_X7_413 ?_
  refine wa_ladd dX7_plan_21 ?_
  refine c_SI dX7_plan_22 (mm_inI (a := t) (b := S.1 268 1 + 1) (c := S.1 268 1 + 9999) e64a e64b) lk_X7_60 rfl ?_
  refine wa_if_eq 44 dX7_plan_25 rfl (fun c25 => ?_) (fun c25 => ?_)
  · refine wa_iconst (x := 0) dX7_plan_44 (by decide) ?_
    refine wa_istore dX7_plan_45 rfl ?_
    refine wa_aload_n dX7_plan_47 rfl ?_
    refine wa_aload_n dX7_plan_48 rfl ?_
    refine wa_iload_n dX7_plan_49 rfl ?_
    refine c_VI dX7_plan_50 (mm_isRoom (by assumption) hVr _) lk_X7_347 rfl (isO_MO _ _ _) rfl (ltS (by assumption)) ?_
    refine wa_iload dX7_plan_53 rfl ?_
    refine wa_aload_n dX7_plan_55 rfl ?_
    refine g_MO (by assumption) 1 dX7_plan_56 fl_X7_17 (by decide) rfl ?_
    refine wa_iconst (x := 3) dX7_plan_59 (by decide) ?_
    refine s_iald (j := 3) isA_net dX7_plan_60 (ltS (by assumption)) rfl (by decide) ?_
    refine wa_bipush (x := 20) dX7_plan_61 (by decide) ?_
    refine wa_icmp_ge 70 dX7_plan_63 rfl (fun c63 => ?_) (fun c63 => ?_)
    · refine wa_iconst (x := 0) dX7_plan_70 (by decide) ?_
      refine c_VI dX7_plan_71 (mm_passes3 (by assumption) _ _ _) lk_X7_7 rfl (isO_MO _ _ _) rfl (ltS (by assumption)) ?_
      rw [p3_g2 h1, b2i_0 (by decide)]
      refine wa_if_ne 79 dX7_plan_74 rfl (fun c74 => absurd rfl c74) (fun c74 => ?_)
      refine wa_iconst (x := 0) dX7_plan_77 (by decide) ?_
      exact wa_ireturn dX7_plan_78 ⟨Nat.le_refl _, Nat.le_refl _, ⟨_, rfl, rfl⟩, rfl, rfl, rfl⟩
    · refine wa_iconst (x := 1) dX7_plan_66 (by decide) ?_
      refine wa_goto 71 dX7_plan_67 rfl ?_
      refine c_VI dX7_plan_71 (mm_passes3 (by assumption) _ _ _) lk_X7_7 rfl (isO_MO _ _ _) rfl (ltS (by assumption)) ?_
      rw [p3_g2 h1, b2i_0 (by decide)]
      refine wa_if_ne 79 dX7_plan_74 rfl (fun c74 => absurd rfl c74) (fun c74 => ?_)
      refine wa_iconst (x := 0) dX7_plan_77 (by decide) ?_
      exact wa_ireturn dX7_plan_78 ⟨Nat.le_refl _, Nat.le_refl _, ⟨_, rfl, rfl⟩, rfl, rfl, rfl⟩
  · refine wa_iload_n dX7_plan_28 rfl ?_
    refine wa_i2l dX7_plan_29 ?_
    refine wa_lconst (x := 0) dX7_plan_30 (by decide) ?_
    refine wa_ldc2 dX7_plan_31 wv_X7_415 ?_
    refine c_SI dX7_plan_34 (mm_inI (a := kk) (b := 0) (c := 3) (by decide) (by decide)) lk_X7_60 rfl ?_
    refine wa_if_eq 44 dX7_plan_37 rfl (fun c37 => ?_) (fun c37 => ?_)
    · refine wa_iconst (x := 0) dX7_plan_44 (by decide) ?_
      refine wa_istore dX7_plan_45 rfl ?_
      refine wa_aload_n dX7_plan_47 rfl ?_
      refine wa_aload_n dX7_plan_48 rfl ?_
      refine wa_iload_n dX7_plan_49 rfl ?_
      refine c_VI dX7_plan_50 (mm_isRoom (by assumption) hVr _) lk_X7_347 rfl (isO_MO _ _ _) rfl (ltS (by assumption)) ?_
      refine wa_iload dX7_plan_53 rfl ?_
      refine wa_aload_n dX7_plan_55 rfl ?_
      refine g_MO (by assumption) 1 dX7_plan_56 fl_X7_17 (by decide) rfl ?_
      refine wa_iconst (x := 3) dX7_plan_59 (by decide) ?_
      refine s_iald (j := 3) isA_net dX7_plan_60 (ltS (by assumption)) rfl (by decide) ?_
      refine wa_bipush (x := 20) dX7_plan_61 (by decide) ?_
      refine wa_icmp_ge 70 dX7_plan_63 rfl (fun c63 => ?_) (fun c63 => ?_)
      · refine wa_iconst (x := 0) dX7_plan_70 (by decide) ?_
        refine c_VI dX7_plan_71 (mm_passes3 (by assumption) _ _ _) lk_X7_7 rfl (isO_MO _ _ _) rfl (ltS (by assumption)) ?_
        rw [p3_g2 h1, b2i_0 (by decide)]
        refine wa_if_ne 79 dX7_plan_74 rfl (fun c74 => absurd rfl c74) (fun c74 => ?_)
        refine wa_iconst (x := 0) dX7_plan_77 (by decide) ?_
        exact wa_ireturn dX7_plan_78 ⟨Nat.le_refl _, Nat.le_refl _, ⟨_, rfl, rfl⟩, rfl, rfl, rfl⟩
      · refine wa_iconst (x := 1) dX7_plan_66 (by decide) ?_
        refine wa_goto 71 dX7_plan_67 rfl ?_
        refine c_VI dX7_plan_71 (mm_passes3 (by assumption) _ _ _) lk_X7_7 rfl (isO_MO _ _ _) rfl (ltS (by assumption)) ?_
        rw [p3_g2 h1, b2i_0 (by decide)]
        refine wa_if_ne 79 dX7_plan_74 rfl (fun c74 => absurd rfl c74) (fun c74 => ?_)
        refine wa_iconst (x := 0) dX7_plan_77 (by decide) ?_
        exact wa_ireturn dX7_plan_78 ⟨Nat.le_refl _, Nat.le_refl _, ⟨_, rfl, rfl⟩, rfl, rfl, rfl⟩
    · exact absurd ⟨b2i_t c25, b2i_t c37⟩ h2
theorem mm_plan_3 {n : Nat} {S : SS} {T : Int} (hn : 279 ≤ n) (hm : mr S = 268) (hV : VG T (S.1 268)) (hT : T < 2147400000) (t r kk : Int32) (h1 : rk S r) (h2 : inr t (S.1 268 1 + 1) (S.1 268 1 + 9999)) (h3 : inr kk 0 3) (h4 : ¬ S.1 268 3 < 20) : AM yX7_plan cX7_plan 5 (some .int) [] 2 0 0 [.ref 267, .int t, .int r, .int kk] n (Hp S) (PI 0 n (th S 3)) := by
  intro has
  change WA RX7 cX7_plan 5 [] _ _ 0 0 0 [some (.ref 267), some (.int t), some (.int r), some (.int kk), none] [] n _
  have hVr : VG T (row S) := by rw [row_net hm]; exact hV
  have hx := hV.1
  have e1i : (1 : Int32).toInt = 1 := by decide
  have e9i : (9999 : Int32).toInt = 9999 := by decide
  have e64a : (S.1 268 1).toInt64 + 1 = (S.1 268 1 + 1).toInt64 := i64_add (c := 1) (by omega) (by omega)
  have e64b : (S.1 268 1).toInt64 + 9999 = (S.1 268 1 + 9999).toInt64 := i64_add (c := 9999) (by omega) (by omega)
  refine wa_iload_n dX7_plan_0 rfl ?_
  refine wa_i2l dX7_plan_1 ?_
  refine wa_aload_n dX7_plan_2 rfl ?_
  refine g_MO (by assumption) 1 dX7_plan_3 fl_X7_17 (by decide) rfl ?_
  refine wa_iconst (x := 1) dX7_plan_6 (by decide) ?_
  refine s_iald (j := 1) isA_net dX7_plan_7 (ltS (by assumption)) rfl (by decide) ?_
  refine wa_i2l dX7_plan_8 ?_
  refine wa_lconst (x := 1) dX7_plan_9 (by decide) ?_
  refine wa_ladd dX7_plan_10 ?_
  refine wa_aload_n dX7_plan_11 rfl ?_
  refine g_MO (by assumption) 1 dX7_plan_12 fl_X7_17 (by decide) rfl ?_
  refine wa_iconst (x := 1) dX7_plan_15 (by decide) ?_
  refine s_iald (j := 1) isA_net dX7_plan_16 (ltS (by assumption)) rfl (by decide) ?_
  refine wa_i2l dX7_plan_17 ?_
  refine wa_ldc2 dX7_plan_18 wv_X7_413 ?_
  refine wa_ladd dX7_plan_21 ?_
  refine c_SI dX7_plan_22 (mm_inI (a := t) (b := S.1 268 1 + 1) (c := S.1 268 1 + 9999) e64a e64b) lk_X7_60 rfl ?_
  rw [b2i_1 h2]
  refine wa_if_eq 44 dX7_plan_25 rfl (fun c25 => absurd c25 (by decide)) (fun c25 => ?_)
  refine wa_iload_n dX7_plan_28 rfl ?_
  refine wa_i2l dX7_plan_29 ?_
  refine wa_lconst (x := 0) dX7_plan_30 (by decide) ?_
  refine wa_ldc2 dX7_plan_31 wv_X7_415 ?_
  refine c_SI dX7_plan_34 (mm_inI (a := kk) (b := 0) (c := 3) (by decide) (by decide)) lk_X7_60 rfl ?_
  rw [b2i_1 h3]
  refine wa_if_eq 44 dX7_plan_37 rfl (fun c37 => absurd c37 (by decide)) (fun c37 => ?_)
  refine wa_iconst (x := 1) dX7_plan_40 (by decide) ?_
  refine wa_goto 45 dX7_plan_41 rfl ?_
  refine wa_istore dX7_plan_45 rfl ?_
  refine wa_aload_n dX7_plan_47 rfl ?_
  refine wa_aload_n dX7_plan_48 rfl ?_
  refine wa_iload_n dX7_plan_49 rfl ?_
  refine c_VI dX7_plan_50 (mm_isRoom (by assumption) hVr _) lk_X7_347 rfl (isO_MO _ _ _) rfl (ltS (by assumption)) ?_
  refine wa_iload dX7_plan_53 rfl ?_
  refine wa_aload_n dX7_plan_55 rfl ?_
  refine g_MO (by assumption) 1 dX7_plan_56 fl_X7_17 (by decide) rfl ?_
  refine wa_iconst (x := 3) dX7_plan_59 (by decide) ?_
  refine s_iald (j := 3) isA_net dX7_plan_60 (ltS (by assumption)) rfl (by decide) ?_
  refine wa_bipush (x := 20) dX7_plan_61 (by decide) ?_
  refine wa_icmp_ge 70 dX7_plan_63 rfl (fun c63 => ?_) (fun c63 => absurd (Int32.not_lt.mp h4) c63)
  refine wa_iconst (x := 0) dX7_plan_70 (by decide) ?_
  refine c_VI dX7_plan_71 (mm_passes3 (by assumption) _ _ _) lk_X7_7 rfl (isO_MO _ _ _) rfl (ltS (by assumption)) ?_
  rw [p3_g3 h1, b2i_0 (by decide)]
  refine wa_if_ne 79 dX7_plan_74 rfl (fun c74 => absurd rfl c74) (fun c74 => ?_)
  refine wa_iconst (x := 0) dX7_plan_77 (by decide) ?_
  exact wa_ireturn dX7_plan_78 ⟨Nat.le_refl _, Nat.le_refl _, ⟨_, rfl, rfl⟩, rfl, rfl, rfl⟩
theorem mm_plan_0 {n : Nat} {S : SS} {T : Int} (hn : 279 ≤ n) (hm : mr S = 268) (hV : VG T (S.1 268)) (hM : RM S) (hT : T < 2147400000) (t r kk : Int32) (h1 : rk S r) (h2 : inr t (S.1 268 1 + 1) (S.1 268 1 + 9999)) (h3 : inr kk 0 3) (h4 : S.1 268 3 < 20) : AM yX7_plan cX7_plan 5 (some .int) [] 2 0 0 [.ref 267, .int t, .int r, .int kk] n (Hp S) (PI (nI (ipos (S.1 268) t (pn (S.1 268)))) n (md (f_plan t r kk) (f_rem (th S 0)))) := by
  intro has
  change WA RX7 cX7_plan 5 [] _ _ 0 0 0 [some (.ref 267), some (.int t), some (.int r), some (.int kk), none] [] n _
  have hVr : VG T (row S) := by rw [row_net hm]; exact hV
  have hx := hV.1
  have e1i : (1 : Int32).toInt = 1 := by decide
  have e9i : (9999 : Int32).toInt = 9999 := by decide
  have e64a : (S.1 268 1).toInt64 + 1 = (S.1 268 1 + 1).toInt64 := i64_add (c := 1) (by omega) (by omega)
  have e64b : (S.1 268 1).toInt64 + 9999 = (S.1 268 1 + 9999).toInt64 := i64_add (c := 9999) (by omega) (by omega)
  have hM1 : RM (th S 0) := RM_th hM 0
  have em : (th S 0).1 268 = S.1 268 := th_n S 0 (by decide)
  have er : row (f_rem (th S 0)) = S.1 268 := (row_rem (S := th S 0) hm).trans em
  have en : (f_rem (th S 0)).1 268 = S.1 268 := (rem_n _ (by decide) (by decide)).trans em
  have hVm : VG T (row (f_rem (th S 0))) := by rw [er]; exact hV
  have e20 : (20 : Int32).toInt = 20 := by decide
  have hp : pn (S.1 268) < 20 := by
    have h5 := Int32.lt_iff_toInt_lt.mp h4
    rw [e20] at h5
    have := hV.2.2.1
    unfold pn
    omega
  refine wa_iload_n dX7_plan_0 rfl ?_
  refine wa_i2l dX7_plan_1 ?_
  refine wa_aload_n dX7_plan_2 rfl ?_
  refine g_MO (by assumption) 1 dX7_plan_3 fl_X7_17 (by decide) rfl ?_
  refine wa_iconst (x := 1) dX7_plan_6 (by decide) ?_
  refine s_iald (j := 1) isA_net dX7_plan_7 (ltS (by assumption)) rfl (by decide) ?_
  refine wa_i2l dX7_plan_8 ?_
  refine wa_lconst (x := 1) dX7_plan_9 (by decide) ?_
  refine wa_ladd dX7_plan_10 ?_
  refine wa_aload_n dX7_plan_11 rfl ?_
  refine g_MO (by assumption) 1 dX7_plan_12 fl_X7_17 (by decide) rfl ?_
  refine wa_iconst (x := 1) dX7_plan_15 (by decide) ?_
  refine s_iald (j := 1) isA_net dX7_plan_16 (ltS (by assumption)) rfl (by decide) ?_
  refine wa_i2l dX7_plan_17 ?_
  refine wa_ldc2 dX7_plan_18 wv_X7_413 ?_
  refine wa_ladd dX7_plan_21 ?_
  refine c_SI dX7_plan_22 (mm_inI (a := t) (b := S.1 268 1 + 1) (c := S.1 268 1 + 9999) e64a e64b) lk_X7_60 rfl ?_
  rw [b2i_1 h2]
  refine wa_if_eq 44 dX7_plan_25 rfl (fun c25 => absurd c25 (by decide)) (fun c25 => ?_)
  refine wa_iload_n dX7_plan_28 rfl ?_
  refine wa_i2l dX7_plan_29 ?_
  refine wa_lconst (x := 0) dX7_plan_30 (by decide) ?_
  refine wa_ldc2 dX7_plan_31 wv_X7_415 ?_
  refine c_SI dX7_plan_34 (mm_inI (a := kk) (b := 0) (c := 3) (by decide) (by decide)) lk_X7_60 rfl ?_
  rw [b2i_1 h3]
  refine wa_if_eq 44 dX7_plan_37 rfl (fun c37 => absurd c37 (by decide)) (fun c37 => ?_)
  refine wa_iconst (x := 1) dX7_plan_40 (by decide) ?_
  refine wa_goto 45 dX7_plan_41 rfl ?_
  refine wa_istore dX7_plan_45 rfl ?_
  refine wa_aload_n dX7_plan_47 rfl ?_
  refine wa_aload_n dX7_plan_48 rfl ?_
  refine wa_iload_n dX7_plan_49 rfl ?_
  refine c_VI dX7_plan_50 (mm_isRoom (by assumption) hVr _) lk_X7_347 rfl (isO_MO _ _ _) rfl (ltS (by assumption)) ?_
  refine wa_iload dX7_plan_53 rfl ?_
  refine wa_aload_n dX7_plan_55 rfl ?_
  refine g_MO (by assumption) 1 dX7_plan_56 fl_X7_17 (by decide) rfl ?_
  refine wa_iconst (x := 3) dX7_plan_59 (by decide) ?_
  refine s_iald (j := 3) isA_net dX7_plan_60 (ltS (by assumption)) rfl (by decide) ?_
  refine wa_bipush (x := 20) dX7_plan_61 (by decide) ?_
  refine wa_icmp_ge 70 dX7_plan_63 rfl (fun c63 => absurd h4 (Int32.not_lt.mpr c63)) (fun c63 => ?_)
  refine wa_iconst (x := 1) dX7_plan_66 (by decide) ?_
  refine wa_goto 71 dX7_plan_67 rfl ?_
  refine c_VI dX7_plan_71 (mm_passes3 (by assumption) _ _ _) lk_X7_7 rfl (isO_MO _ _ _) rfl (ltS (by assumption)) ?_
  rw [show p3 (b2i (rk S r)) 1 1 = 0 from p3_f0 h1, b2i_1 rfl]
  refine wa_if_ne 79 dX7_plan_74 rfl (fun c74 => ?_) (fun c74 => absurd c74 (by decide))
  refine wa_aload_n dX7_plan_79 rfl ?_
  refine c_VV dX7_plan_80 (mm_remember (by assumption) (by assumption)) lk_X7_340 rfl (isO_MO _ _ _) rfl (ltS (by assumption)) ?_
  refine wa_aload_n dX7_plan_83 rfl ?_
  refine wa_iload_n dX7_plan_84 rfl ?_
  refine wa_iload_n dX7_plan_85 rfl ?_
  refine wa_iload_n dX7_plan_86 rfl ?_
  refine c_VI dX7_plan_87 (mm_addPlan (S := f_rem (th S 0)) hn (by rw [er]; exact hV.2.2.1.1) (by rw [er]; exact hp) t r kk) lk_X7_309 rfl (isO_MO _ _ _) rfl (ltS (by assumption)) ?_
  exact wa_ireturn dX7_plan_90 ⟨Nat.le_refl _, Nat.le_refl _, ⟨_, rfl, rfl⟩, (ri (by rw [er])), rfl, rfl⟩
theorem mm_setControl_1 {n : Nat} {S : SS} {T : Int} (hn : 279 ≤ n) (hm : mr S = 268) (hV : VG T (S.1 268)) (a b c : Int32) (h1 : ¬ (inr a 0 50 ∧ inr b 1 50 ∧ inr c 1 100)) : AM yX7_setControl cX7_setControl 5 (some .int) [] 2 0 0 [.ref 267, .int a, .int b, .int c] n (Hp S) (PI 0 n (th S 1)) := by
  intro has
  change WA RX7 cX7_setControl 5 [] _ _ 0 0 0 [some (.ref 267), some (.int a), some (.int b), some (.int c), none] [] n _
  refine wa_aload_n dX7_setControl_0 rfl ?_
  refine wa_iload_n dX7_setControl_1 rfl ?_
  refine wa_i2l dX7_setControl_2 ?_
  refine wa_lconst (x := 0) dX7_setControl_3 (by decide) ?_
  refine wa_ldc2 dX7_setControl_4 wv_X7_403 ?_
  refine c_SI dX7_setControl_7 (mm_inI (a := a) (b := 0) (c := 50) (by decide) (by decide)) lk_X7_60 rfl ?_
  refine wa_if_eq 41 dX7_setControl_10 rfl (fun c10 => ?_) (fun c10 => ?_)
  · refine wa_iconst (x := 0) dX7_setControl_41 (by decide) ?_
    refine c_VI dX7_setControl_42 (mm_passes (by assumption) _) lk_X7_155 rfl (isO_MO _ _ _) rfl (ltS (by assumption)) ?_
    rw [show p3 0 1 1 = 1 from rfl, b2i_0 (by decide)]
    refine wa_if_ne 50 dX7_setControl_45 rfl (fun c45 => absurd rfl c45) (fun c45 => ?_)
    refine wa_iconst (x := 0) dX7_setControl_48 (by decide) ?_
    exact wa_ireturn dX7_setControl_49 ⟨Nat.le_refl _, Nat.le_refl _, ⟨_, rfl, rfl⟩, rfl, rfl, rfl⟩
  · refine wa_iload_n dX7_setControl_13 rfl ?_
    refine wa_i2l dX7_setControl_14 ?_
    refine wa_lconst (x := 1) dX7_setControl_15 (by decide) ?_
    refine wa_ldc2 dX7_setControl_16 wv_X7_403 ?_
    refine c_SI dX7_setControl_19 (mm_inI (a := b) (b := 1) (c := 50) (by decide) (by decide)) lk_X7_60 rfl ?_
    refine wa_if_eq 41 dX7_setControl_22 rfl (fun c22 => ?_) (fun c22 => ?_)
    · refine wa_iconst (x := 0) dX7_setControl_41 (by decide) ?_
      refine c_VI dX7_setControl_42 (mm_passes (by assumption) _) lk_X7_155 rfl (isO_MO _ _ _) rfl (ltS (by assumption)) ?_
      rw [show p3 0 1 1 = 1 from rfl, b2i_0 (by decide)]
      refine wa_if_ne 50 dX7_setControl_45 rfl (fun c45 => absurd rfl c45) (fun c45 => ?_)
      refine wa_iconst (x := 0) dX7_setControl_48 (by decide) ?_
      exact wa_ireturn dX7_setControl_49 ⟨Nat.le_refl _, Nat.le_refl _, ⟨_, rfl, rfl⟩, rfl, rfl, rfl⟩
    · refine wa_iload_n dX7_setControl_25 rfl ?_
      refine wa_i2l dX7_setControl_26 ?_
      refine wa_lconst (x := 1) dX7_setControl_27 (by decide) ?_
      refine wa_ldc2 dX7_setControl_28 wv_X7_91 ?_
      refine c_SI dX7_setControl_31 (mm_inI (a := c) (b := 1) (c := 100) (by decide) (by decide)) lk_X7_60 rfl ?_
      refine wa_if_eq 41 dX7_setControl_34 rfl (fun c34 => ?_) (fun c34 => ?_)
      · refine wa_iconst (x := 0) dX7_setControl_41 (by decide) ?_
        refine c_VI dX7_setControl_42 (mm_passes (by assumption) _) lk_X7_155 rfl (isO_MO _ _ _) rfl (ltS (by assumption)) ?_
        rw [show p3 0 1 1 = 1 from rfl, b2i_0 (by decide)]
        refine wa_if_ne 50 dX7_setControl_45 rfl (fun c45 => absurd rfl c45) (fun c45 => ?_)
        refine wa_iconst (x := 0) dX7_setControl_48 (by decide) ?_
        exact wa_ireturn dX7_setControl_49 ⟨Nat.le_refl _, Nat.le_refl _, ⟨_, rfl, rfl⟩, rfl, rfl, rfl⟩
      · exact absurd ⟨b2i_t c10, b2i_t c22, b2i_t c34⟩ h1
theorem mm_setControl_0 {n : Nat} {S : SS} {T : Int} (hn : 279 ≤ n) (hm : mr S = 268) (hV : VG T (S.1 268)) (hM : RM S) (hT : T < 2147400000) (a b c : Int32) (h1 : inr a 0 50) (h2 : inr b 1 50) (h3 : inr c 1 100) : AM yX7_setControl cX7_setControl 5 (some .int) [] 2 0 0 [.ref 267, .int a, .int b, .int c] n (Hp S) (PI (100000 * S.1 268 7 + 1000 * S.1 268 8 + S.1 268 9) n (su (f_rem (th S 0)) 268 (upd (upd (upd (S.1 268) 7 a) 8 b) 9 c))) := by
  intro has
  change WA RX7 cX7_setControl 5 [] _ _ 0 0 0 [some (.ref 267), some (.int a), some (.int b), some (.int c), none] [] n _
  have hM1 : RM (th S 0) := RM_th hM 0
  have em : (th S 0).1 268 = S.1 268 := th_n S 0 (by decide)
  have er : row (f_rem (th S 0)) = S.1 268 := (row_rem (S := th S 0) hm).trans em
  have en : (f_rem (th S 0)).1 268 = S.1 268 := (rem_n _ (by decide) (by decide)).trans em
  have hVm : VG T (row (f_rem (th S 0))) := by rw [er]; exact hV
  have eS : f_rem (th S 0) = su (f_rem (th S 0)) 268 (S.1 268) := by rw [← en]; exact (su_self _ 268).symm
  refine wa_aload_n dX7_setControl_0 rfl ?_
  refine wa_iload_n dX7_setControl_1 rfl ?_
  refine wa_i2l dX7_setControl_2 ?_
  refine wa_lconst (x := 0) dX7_setControl_3 (by decide) ?_
  refine wa_ldc2 dX7_setControl_4 wv_X7_403 ?_
  refine c_SI dX7_setControl_7 (mm_inI (a := a) (b := 0) (c := 50) (by decide) (by decide)) lk_X7_60 rfl ?_
  rw [b2i_1 h1]
  refine wa_if_eq 41 dX7_setControl_10 rfl (fun c10 => absurd c10 (by decide)) (fun c10 => ?_)
  refine wa_iload_n dX7_setControl_13 rfl ?_
  refine wa_i2l dX7_setControl_14 ?_
  refine wa_lconst (x := 1) dX7_setControl_15 (by decide) ?_
  refine wa_ldc2 dX7_setControl_16 wv_X7_403 ?_
  refine c_SI dX7_setControl_19 (mm_inI (a := b) (b := 1) (c := 50) (by decide) (by decide)) lk_X7_60 rfl ?_
  rw [b2i_1 h2]
  refine wa_if_eq 41 dX7_setControl_22 rfl (fun c22 => absurd c22 (by decide)) (fun c22 => ?_)
  refine wa_iload_n dX7_setControl_25 rfl ?_
  refine wa_i2l dX7_setControl_26 ?_
  refine wa_lconst (x := 1) dX7_setControl_27 (by decide) ?_
  refine wa_ldc2 dX7_setControl_28 wv_X7_91 ?_
  refine c_SI dX7_setControl_31 (mm_inI (a := c) (b := 1) (c := 100) (by decide) (by decide)) lk_X7_60 rfl ?_
  rw [b2i_1 h3]
  refine wa_if_eq 41 dX7_setControl_34 rfl (fun c34 => absurd c34 (by decide)) (fun c34 => ?_)
  refine wa_iconst (x := 1) dX7_setControl_37 (by decide) ?_
  refine wa_goto 42 dX7_setControl_38 rfl ?_
  refine c_VI dX7_setControl_42 (mm_passes (by assumption) _) lk_X7_155 rfl (isO_MO _ _ _) rfl (ltS (by assumption)) ?_
  rw [show p3 1 1 1 = 0 from rfl, b2i_1 rfl]
  refine wa_if_ne 50 dX7_setControl_45 rfl (fun c45 => ?_) (fun c45 => absurd c45 (by decide))
  refine wa_aload_n dX7_setControl_50 rfl ?_
  refine c_VV dX7_setControl_51 (mm_remember (by assumption) (by assumption)) lk_X7_340 rfl (isO_MO _ _ _) rfl (ltS (by assumption)) ?_
  refine wa_ldcw dX7_setControl_54 wv_X7_417 ?_
  refine wa_aload_n dX7_setControl_57 rfl ?_
  refine g_MO (by assumption) 1 dX7_setControl_58 fl_X7_17 (by decide) rfl ?_
  refine wa_bipush (x := 7) dX7_setControl_61 (by decide) ?_
  refine s_iald (j := 7) isA_net dX7_setControl_63 (ltS (by assumption)) rfl (by decide) ?_
  refine wa_imul dX7_setControl_64 ?_
  refine wa_sipush (x := 1000) dX7_setControl_65 (by decide) ?_
  refine wa_aload_n dX7_setControl_68 rfl ?_
  refine g_MO (by assumption) 1 dX7_setControl_69 fl_X7_17 (by decide) rfl ?_
  refine wa_bipush (x := 8) dX7_setControl_72 (by decide) ?_
  refine s_iald (j := 8) isA_net dX7_setControl_74 (ltS (by assumption)) rfl (by decide) ?_
  refine wa_imul dX7_setControl_75 ?_
  refine wa_iadd dX7_setControl_76 ?_
  refine wa_aload_n dX7_setControl_77 rfl ?_
  refine g_MO (by assumption) 1 dX7_setControl_78 fl_X7_17 (by decide) rfl ?_
  refine wa_bipush (x := 9) dX7_setControl_81 (by decide) ?_
  refine s_iald (j := 9) isA_net dX7_setControl_83 (ltS (by assumption)) rfl (by decide) ?_
  refine wa_iadd dX7_setControl_84 ?_
  refine wa_istore dX7_setControl_85 rfl ?_
  refine wa_aload_n dX7_setControl_87 rfl ?_
  refine g_MO (by assumption) 1 dX7_setControl_88 fl_X7_17 (by decide) rfl ?_
  refine wa_bipush (x := 7) dX7_setControl_91 (by decide) ?_
  refine wa_iload_n dX7_setControl_93 rfl ?_
  refine wa_cg eS.symm ?_
  refine s_iast (j := 7) isA_net dX7_setControl_94 (ltS (by assumption)) (by decide) (by decide) ?_
  show WA _ _ _ _ _ _ _ _ _ _ _ _ (Hp (ss (su (f_rem (th S 0)) 268 (S.1 268)) 268 7 a))
  rw [su_a]
  refine wa_aload_n dX7_setControl_95 rfl ?_
  refine g_MO (by assumption) 1 dX7_setControl_96 fl_X7_17 (by decide) rfl ?_
  refine wa_bipush (x := 8) dX7_setControl_99 (by decide) ?_
  refine wa_iload_n dX7_setControl_101 rfl ?_
  refine s_iast (j := 8) isA_net dX7_setControl_102 (ltS (by assumption)) (by decide) (by decide) ?_
  show WA _ _ _ _ _ _ _ _ _ _ _ _ (Hp (ss (su (f_rem (th S 0)) 268 (upd (S.1 268) 7 a)) 268 8 b))
  rw [su_a]
  refine wa_aload_n dX7_setControl_103 rfl ?_
  refine g_MO (by assumption) 1 dX7_setControl_104 fl_X7_17 (by decide) rfl ?_
  refine wa_bipush (x := 9) dX7_setControl_107 (by decide) ?_
  refine wa_iload_n dX7_setControl_109 rfl ?_
  refine s_iast (j := 9) isA_net dX7_setControl_110 (ltS (by assumption)) (by decide) (by decide) ?_
  show WA _ _ _ _ _ _ _ _ _ _ _ _ (Hp (ss (su (f_rem (th S 0)) 268 (upd (upd (S.1 268) 7 a) 8 b)) 268 9 c))
  rw [su_a]
  refine wa_iload dX7_setControl_111 rfl ?_
  exact wa_ireturn dX7_setControl_113 ⟨Nat.le_refl _, Nat.le_refl _, ⟨_, rfl, rfl⟩, (ri (by rw [show (f_rem (ss S 267 0 0)).1 268 = S.1 268 from en])), rfl, rfl⟩
theorem mm_clearProgram_1 {n : Nat} {S : SS} {T : Int} (hn : 279 ≤ n) (hm : mr S = 268) (hV : VG T (S.1 268)) (r t : Int32) (h1 : ¬ rk S r) : AM yX7_clearProgram cX7_clearProgram 6 (some .int) [] 3 0 0 [.ref 267, .int r, .int t] n (Hp S) (PI 0 n (th S 1)) := by
  intro has
  change WA RX7 cX7_clearProgram 6 [] _ _ 0 0 0 [some (.ref 267), some (.int r), some (.int t), none, none, none] [] n _
  have hVr : VG T (row S) := by rw [row_net hm]; exact hV
  refine wa_aload_n dX7_clearProgram_0 rfl ?_
  refine wa_iload_n dX7_clearProgram_1 rfl ?_
  refine c_VI dX7_clearProgram_2 (mm_isRoom (by assumption) hVr r) lk_X7_347 rfl (isO_MO _ _ _) rfl (ltS (by assumption)) ?_
  rw [b2i_0 h1]
  refine wa_istore_n dX7_clearProgram_5 rfl ?_
  refine wa_iload_n dX7_clearProgram_6 rfl ?_
  refine c_SI dX7_clearProgram_7 (mm_isTick _) lk_X7_363 rfl ?_
  refine wa_istore dX7_clearProgram_10 rfl ?_
  refine wa_aload_n dX7_clearProgram_12 rfl ?_
  refine wa_iload_n dX7_clearProgram_13 rfl ?_
  refine wa_iload dX7_clearProgram_14 rfl ?_
  refine wa_iload_n dX7_clearProgram_16 rfl ?_
  refine wa_if_eq 38 dX7_clearProgram_17 rfl (fun c17 => ?_) (fun c17 => absurd rfl c17)
  refine wa_iconst (x := 0) dX7_clearProgram_38 (by decide) ?_
  refine c_VI dX7_clearProgram_39 (mm_passes3 (by assumption) _ _ _) lk_X7_7 rfl (isO_MO _ _ _) rfl (ltS (by assumption)) ?_
  rw [show p3 0 (b2i (inr t 0 47)) 0 = 1 from rfl, b2i_0 (show ¬ ((1 : Int32) = 0) by decide)]
  refine wa_if_ne 47 dX7_clearProgram_42 rfl (fun c42 => absurd rfl c42) (fun c42 => ?_)
  refine wa_iconst (x := 0) dX7_clearProgram_45 (by decide) ?_
  exact wa_ireturn dX7_clearProgram_46 ⟨Nat.le_refl _, Nat.le_refl _, ⟨_, rfl, rfl⟩, rfl, rfl, rfl⟩
theorem mm_clearProgram_2 {n : Nat} {S : SS} {T : Int} (hn : 279 ≤ n) (hm : mr S = 268) (hV : VG T (S.1 268)) (r t : Int32) (h1 : rk S r) (h2 : ¬ inr t 0 47) : AM yX7_clearProgram cX7_clearProgram 6 (some .int) [] 3 0 0 [.ref 267, .int r, .int t] n (Hp S) (PI 0 n (th S 2)) := by
  intro has
  change WA RX7 cX7_clearProgram 6 [] _ _ 0 0 0 [some (.ref 267), some (.int r), some (.int t), none, none, none] [] n _
  have hVr : VG T (row S) := by rw [row_net hm]; exact hV
  refine wa_aload_n dX7_clearProgram_0 rfl ?_
  refine wa_iload_n dX7_clearProgram_1 rfl ?_
  refine c_VI dX7_clearProgram_2 (mm_isRoom (by assumption) hVr r) lk_X7_347 rfl (isO_MO _ _ _) rfl (ltS (by assumption)) ?_
  rw [b2i_1 h1]
  refine wa_istore_n dX7_clearProgram_5 rfl ?_
  refine wa_iload_n dX7_clearProgram_6 rfl ?_
  refine c_SI dX7_clearProgram_7 (mm_isTick _) lk_X7_363 rfl ?_
  rw [b2i_0 h2]
  refine wa_istore dX7_clearProgram_10 rfl ?_
  refine wa_aload_n dX7_clearProgram_12 rfl ?_
  refine wa_iload_n dX7_clearProgram_13 rfl ?_
  refine wa_iload dX7_clearProgram_14 rfl ?_
  refine wa_iload_n dX7_clearProgram_16 rfl ?_
  refine wa_if_eq 38 dX7_clearProgram_17 rfl (fun c17 => absurd c17 (by decide)) (fun c17 => ?_)
  refine wa_iload dX7_clearProgram_20 rfl ?_
  refine wa_if_eq 38 dX7_clearProgram_22 rfl (fun c22 => ?_) (fun c22 => absurd rfl c22)
  refine wa_iconst (x := 0) dX7_clearProgram_38 (by decide) ?_
  refine c_VI dX7_clearProgram_39 (mm_passes3 (by assumption) _ _ _) lk_X7_7 rfl (isO_MO _ _ _) rfl (ltS (by assumption)) ?_
  rw [show p3 1 0 0 = 2 from rfl, b2i_0 (by decide)]
  refine wa_if_ne 47 dX7_clearProgram_42 rfl (fun c42 => absurd rfl c42) (fun c42 => ?_)
  refine wa_iconst (x := 0) dX7_clearProgram_45 (by decide) ?_
  exact wa_ireturn dX7_clearProgram_46 ⟨Nat.le_refl _, Nat.le_refl _, ⟨_, rfl, rfl⟩, rfl, rfl, rfl⟩
theorem mm_clearProgram_3 {n : Nat} {S : SS} {T : Int} (hn : 279 ≤ n) (hm : mr S = 268) (hV : VG T (S.1 268)) {i t : Nat} (hi : i < 6) (ht : t < 48) (h1 : rk S (nI i)) (h2 : inr (nI t) 0 47) (h3 : pg (S.1 268) i t = 0) : AM yX7_clearProgram cX7_clearProgram 6 (some .int) [] 3 0 0 [.ref 267, .int (nI i), .int (nI t)] n (Hp S) (PI 0 n (th S 3)) := by
  intro has
  change WA RX7 cX7_clearProgram 6 [] _ _ 0 0 0 [some (.ref 267), some (.int (nI i)), some (.int (nI t)), none, none, none] [] n _
  have hVr : VG T (row S) := by rw [row_net hm]; exact hV
  refine wa_aload_n dX7_clearProgram_0 rfl ?_
  refine wa_iload_n dX7_clearProgram_1 rfl ?_
  refine c_VI dX7_clearProgram_2 (mm_isRoom (by assumption) hVr (nI i)) lk_X7_347 rfl (isO_MO _ _ _) rfl (ltS (by assumption)) ?_
  rw [b2i_1 h1]
  refine wa_istore_n dX7_clearProgram_5 rfl ?_
  refine wa_iload_n dX7_clearProgram_6 rfl ?_
  refine c_SI dX7_clearProgram_7 (mm_isTick _) lk_X7_363 rfl ?_
  rw [b2i_1 h2]
  refine wa_istore dX7_clearProgram_10 rfl ?_
  refine wa_aload_n dX7_clearProgram_12 rfl ?_
  refine wa_iload_n dX7_clearProgram_13 rfl ?_
  refine wa_iload dX7_clearProgram_14 rfl ?_
  refine wa_iload_n dX7_clearProgram_16 rfl ?_
  refine wa_if_eq 38 dX7_clearProgram_17 rfl (fun c17 => absurd c17 (by decide)) (fun c17 => ?_)
  refine wa_iload dX7_clearProgram_20 rfl ?_
  refine wa_if_eq 38 dX7_clearProgram_22 rfl (fun c22 => absurd c22 (by decide)) (fun c22 => ?_)
  refine wa_aload_n dX7_clearProgram_25 rfl ?_
  refine wa_iload_n dX7_clearProgram_26 rfl ?_
  refine wa_iload_n dX7_clearProgram_27 rfl ?_
  refine c_VI dX7_clearProgram_28 (mm_programAt (i := i) (t := t) (by assumption) hi ht) lk_X7_72 rfl (isO_MO _ _ _) rfl (ltS (by assumption)) ?_
  rw [show S.1 (mr S) (71 + 66 * i + (18 + t)) = pg (S.1 268) i t from (congrFun (row_net hm) _).trans (pg_at ht)]
  refine wa_if_le 38 dX7_clearProgram_31 rfl (fun c31 => ?_) (fun c31 => absurd (by rw [h3]; decide) c31)
  refine wa_iconst (x := 0) dX7_clearProgram_38 (by decide) ?_
  refine c_VI dX7_clearProgram_39 (mm_passes3 (by assumption) _ _ _) lk_X7_7 rfl (isO_MO _ _ _) rfl (ltS (by assumption)) ?_
  rw [show p3 1 1 0 = 3 from rfl, b2i_0 (by decide)]
  refine wa_if_ne 47 dX7_clearProgram_42 rfl (fun c42 => absurd rfl c42) (fun c42 => ?_)
  refine wa_iconst (x := 0) dX7_clearProgram_45 (by decide) ?_
  exact wa_ireturn dX7_clearProgram_46 ⟨Nat.le_refl _, Nat.le_refl _, ⟨_, rfl, rfl⟩, rfl, rfl, rfl⟩
theorem mm_clearProgram_0 {n : Nat} {S : SS} {T : Int} (hn : 279 ≤ n) (hm : mr S = 268) (hV : VG T (S.1 268)) (hM : RM S) (hT : T < 2147400000) {i t : Nat} (hi : i < 6) (ht : t < 48) (h1 : rk S (nI i)) (h2 : inr (nI t) 0 47) (h3 : ¬ pg (S.1 268) i t = 0) : AM yX7_clearProgram cX7_clearProgram 6 (some .int) [] 3 0 0 [.ref 267, .int (nI i), .int (nI t)] n (Hp S) (PI (nI (cnt (pg (pt (S.1 268) i (18 + t) 0) i) 48)) n (md (fun g => pt g i (18 + t) 0) (f_rem (th S 0)))) := by
  intro has
  change WA RX7 cX7_clearProgram 6 [] _ _ 0 0 0 [some (.ref 267), some (.int (nI i)), some (.int (nI t)), none, none, none] [] n _
  have hVr : VG T (row S) := by rw [row_net hm]; exact hV
  have hM1 : RM (th S 0) := RM_th hM 0
  have em : (th S 0).1 268 = S.1 268 := th_n S 0 (by decide)
  have er : row (f_rem (th S 0)) = S.1 268 := (row_rem (S := th S 0) hm).trans em
  have en : (f_rem (th S 0)).1 268 = S.1 268 := (rem_n _ (by decide) (by decide)).trans em
  have hVm : VG T (row (f_rem (th S 0))) := by rw [er]; exact hV
  have h0 : 0 < pg (S.1 268) i t := ((hV.2.2.2.2 i).pos t).mpr h3
  have hV3 : VG T (row (md (fun g => pt g i (18 + t) 0) (f_rem (th S 0)))) := by rw [md_row, er]; exact VG_prog hV ht (Or.inl rfl)
  refine wa_aload_n dX7_clearProgram_0 rfl ?_
  refine wa_iload_n dX7_clearProgram_1 rfl ?_
  refine c_VI dX7_clearProgram_2 (mm_isRoom (by assumption) hVr (nI i)) lk_X7_347 rfl (isO_MO _ _ _) rfl (ltS (by assumption)) ?_
  rw [b2i_1 h1]
  refine wa_istore_n dX7_clearProgram_5 rfl ?_
  refine wa_iload_n dX7_clearProgram_6 rfl ?_
  refine c_SI dX7_clearProgram_7 (mm_isTick _) lk_X7_363 rfl ?_
  rw [b2i_1 h2]
  refine wa_istore dX7_clearProgram_10 rfl ?_
  refine wa_aload_n dX7_clearProgram_12 rfl ?_
  refine wa_iload_n dX7_clearProgram_13 rfl ?_
  refine wa_iload dX7_clearProgram_14 rfl ?_
  refine wa_iload_n dX7_clearProgram_16 rfl ?_
  refine wa_if_eq 38 dX7_clearProgram_17 rfl (fun c17 => absurd c17 (by decide)) (fun c17 => ?_)
  refine wa_iload dX7_clearProgram_20 rfl ?_
  refine wa_if_eq 38 dX7_clearProgram_22 rfl (fun c22 => absurd c22 (by decide)) (fun c22 => ?_)
  refine wa_aload_n dX7_clearProgram_25 rfl ?_
  refine wa_iload_n dX7_clearProgram_26 rfl ?_
  refine wa_iload_n dX7_clearProgram_27 rfl ?_
  refine c_VI dX7_clearProgram_28 (mm_programAt (i := i) (t := t) (by assumption) hi ht) lk_X7_72 rfl (isO_MO _ _ _) rfl (ltS (by assumption)) ?_
  rw [show S.1 (mr S) (71 + 66 * i + (18 + t)) = pg (S.1 268) i t from (congrFun (row_net hm) _).trans (pg_at ht)]
  refine wa_if_le 38 dX7_clearProgram_31 rfl (fun c31 => absurd h0 (Int32.not_lt.mpr c31)) (fun c31 => ?_)
  refine wa_iconst (x := 1) dX7_clearProgram_34 (by decide) ?_
  refine wa_goto 39 dX7_clearProgram_35 rfl ?_
  refine c_VI dX7_clearProgram_39 (mm_passes3 (by assumption) _ _ _) lk_X7_7 rfl (isO_MO _ _ _) rfl (ltS (by assumption)) ?_
  rw [show p3 1 1 1 = 0 from rfl, b2i_1 rfl]
  refine wa_if_ne 47 dX7_clearProgram_42 rfl (fun c42 => ?_) (fun c42 => absurd c42 (by decide))
  refine wa_aload_n dX7_clearProgram_47 rfl ?_
  refine wa_iload_n dX7_clearProgram_48 rfl ?_
  refine wa_bipush (x := 18) dX7_clearProgram_49 (by decide) ?_
  refine wa_iload_n dX7_clearProgram_51 rfl ?_
  refine wa_iadd dX7_clearProgram_52 ?_
  rw [show (18 : Int32) + nI t = nI (18 + t) from nI_add 18 t]
  refine wa_iconst (x := 0) dX7_clearProgram_53 (by decide) ?_
  refine c_VI dX7_clearProgram_54 (mm_becomes (S := th S 0) (w := 18 + t) (by assumption) hm hM1 hi (by omega) 0) lk_X7_410 rfl (isO_MO _ _ _) rfl (ltS (by assumption)) ?_
  refine wa_istore dX7_clearProgram_57 rfl ?_
  refine wa_aload_n dX7_clearProgram_59 rfl ?_
  refine wa_iload_n dX7_clearProgram_60 rfl ?_
  refine c_VI dX7_clearProgram_61 (mm_entries hn hi hV3) lk_X7_300 rfl (isO_MO _ _ _) rfl (ltS (by assumption)) ?_
  rw [md_row, er]
  exact wa_ireturn dX7_clearProgram_64 ⟨Nat.le_refl _, Nat.le_refl _, ⟨_, rfl, rfl⟩, rfl, rfl, rfl⟩
