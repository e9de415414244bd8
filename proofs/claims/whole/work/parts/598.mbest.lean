/-! ValveRoomModel: entry, bestGain, exerciseIn. Written by program (wip/whole/gen/m598.py) but for the heads. -/
theorem cnt_lt2 {P : Nat → Int32} (_h : PT P) {s t : Nat} (hs : s < t) (h0 : ¬ P s = 0) : cnt P s < cnt P t := by
  have h1 := cnt_s1 h0
  have h2 := cnt_mono P (show s + 1 ≤ t by omega)
  omega
theorem mm_entry_1 {n : Nat} {S : SS} {T : Int} (hn : 279 ≤ n) (hm : mr S = 268) (hV : VG T (S.1 268)) (r k : Int32) (h1 : ¬ rk S r) : AM yX7_entry cX7_entry 6 (some .int) [] 4 0 0 [.ref 267, .int r, .int k] n (Hp S) (PI 0 n (th S 1)) := by
  intro has
  change WA RX7 cX7_entry 6 [] _ _ 0 0 0 [some (.ref 267), some (.int r), some (.int k), none, none, none] [] n _
  have hVr : VG T (row S) := by rw [row_net hm]; exact hV
  refine wa_aload_n dX7_entry_0 rfl ?_
  refine wa_iload_n dX7_entry_1 rfl ?_
  refine c_VI dX7_entry_2 (mm_isRoom (by assumption) hVr r) lk_X7_347 rfl (isO_MO _ _ _) rfl (ltS (by assumption)) ?_
  rw [b2i_0 h1]
  refine wa_istore_n dX7_entry_5 rfl ?_
  refine wa_aload_n dX7_entry_6 rfl ?_
  refine wa_iload_n dX7_entry_7 rfl ?_
  refine wa_iload_n dX7_entry_8 rfl ?_
  refine wa_if_eq 33 dX7_entry_9 rfl (fun c9 => ?_) (fun c9 => absurd rfl c9)
  refine wa_iconst (x := 0) dX7_entry_33 (by decide) ?_
  refine c_VI dX7_entry_34 (mm_passes2 (by assumption) _ _) lk_X7_352 rfl (isO_MO _ _ _) rfl (ltS (by assumption)) ?_
  rw [show p3 0 0 1 = 1 from rfl, b2i_0 (by decide)]
  refine wa_if_ne 42 dX7_entry_37 rfl (fun c37 => absurd rfl c37) (fun c37 => ?_)
  refine wa_iconst (x := 0) dX7_entry_40 (by decide) ?_
  exact wa_ireturn dX7_entry_41 ⟨Nat.le_refl _, Nat.le_refl _, ⟨_, rfl, rfl⟩, rfl, rfl, rfl⟩
theorem mm_entry_2 {n : Nat} {S : SS} {T : Int} (hn : 279 ≤ n) (hm : mr S = 268) (hV : VG T (S.1 268)) {i : Nat} (hi : i < 6) (k : Int32) (h1 : rk S (nI i)) (h2 : ¬ inr k 0 (nI (cnt (pg (S.1 268) i) 48) - 1)) : AM yX7_entry cX7_entry 6 (some .int) [] 4 0 0 [.ref 267, .int (nI i), .int k] n (Hp S) (PI 0 n (th S 2)) := by
  intro has
  change WA RX7 cX7_entry 6 [] _ _ 0 0 0 [some (.ref 267), some (.int (nI i)), some (.int k), none, none, none] [] n _
  have hVr : VG T (row S) := by rw [row_net hm]; exact hV
  refine wa_aload_n dX7_entry_0 rfl ?_
  refine wa_iload_n dX7_entry_1 rfl ?_
  refine c_VI dX7_entry_2 (mm_isRoom (by assumption) hVr (nI i)) lk_X7_347 rfl (isO_MO _ _ _) rfl (ltS (by assumption)) ?_
  rw [b2i_1 h1]
  refine wa_istore_n dX7_entry_5 rfl ?_
  refine wa_aload_n dX7_entry_6 rfl ?_
  refine wa_iload_n dX7_entry_7 rfl ?_
  refine wa_iload_n dX7_entry_8 rfl ?_
  refine wa_if_eq 33 dX7_entry_9 rfl (fun c9 => absurd c9 (by decide)) (fun c9 => ?_)
  refine wa_iload_n dX7_entry_12 rfl ?_
  refine wa_i2l dX7_entry_13 ?_
  refine wa_lconst (x := 0) dX7_entry_14 (by decide) ?_
  refine wa_aload_n dX7_entry_15 rfl ?_
  refine wa_iload_n dX7_entry_16 rfl ?_
  refine c_VI dX7_entry_17 (mm_entries hn hi hVr) lk_X7_300 rfl (isO_MO _ _ _) rfl (ltS (by assumption)) ?_
  rw [row_net hm]
  refine wa_iconst (x := 1) dX7_entry_20 (by decide) ?_
  refine wa_isub dX7_entry_21 ?_
  refine wa_i2l dX7_entry_22 ?_
  refine c_SI dX7_entry_23 (mm_inI (a := k) (b := 0) (c := nI (cnt (pg (S.1 268) i) 48) - 1) (by decide) rfl) lk_X7_60 rfl ?_
  rw [b2i_0 h2]
  refine wa_if_eq 33 dX7_entry_26 rfl (fun c26 => ?_) (fun c26 => absurd rfl c26)
  refine wa_iconst (x := 0) dX7_entry_33 (by decide) ?_
  refine c_VI dX7_entry_34 (mm_passes2 (by assumption) _ _) lk_X7_352 rfl (isO_MO _ _ _) rfl (ltS (by assumption)) ?_
  rw [show p3 1 0 1 = 2 from rfl, b2i_0 (by decide)]
  refine wa_if_ne 42 dX7_entry_37 rfl (fun c37 => absurd rfl c37) (fun c37 => ?_)
  refine wa_iconst (x := 0) dX7_entry_40 (by decide) ?_
  exact wa_ireturn dX7_entry_41 ⟨Nat.le_refl _, Nat.le_refl _, ⟨_, rfl, rfl⟩, rfl, rfl, rfl⟩
theorem lp_entry {Q : ab_Q} {n i s : Nat} {S : SS} {P : Nat → Int32} (kk x3 : Int32) (hn : 279 ≤ n) (hi : i < 6) (eP : ∀ t, t < 48 → S.1 (mr S) (71 + 66 * i + (18 + t)) = P t) (hP : PT P) (hs : s < 48) (h0 : ¬ P s = 0) (hQ : Q (.inl (some (.int (nI (1000 * s) + P s)))) 0 0 n (Hp S)) :
    ∀ (r t : Nat), t + r = s → WA RX7 cX7_entry 6 [] (ab_rm 4 0 0) Q 0 0 48 [some (.ref 267), some (.int (nI i)), some (.int kk), some (.int x3), some (.int (nI (cnt P s - cnt P t))), some (.int (nI t))] [] n (Hp S) := by
  intro r
  induction r with
  | zero =>
    intro t hk
    have hk' : s = t := by omega
    subst hk'

    refine wa_aload_n dX7_entry_48 rfl ?_
    refine wa_iload_n dX7_entry_49 rfl ?_
    refine wa_iload dX7_entry_50 rfl ?_
    refine c_VI dX7_entry_52 (mm_programAt (i := i) (t := s) (by assumption) hi (hs)) lk_X7_72 rfl (isO_MO _ _ _) rfl (ltS (by assumption)) ?_
    rw [eP s (hs)]
    refine wa_if_eq 63 dX7_entry_55 rfl (fun c55 => absurd c55 h0) (fun c55 => ?_)
    refine wa_iload dX7_entry_58 rfl ?_
    refine wa_if_le 89 dX7_entry_60 rfl (fun c60 => ?_) (fun c60 => absurd (by rw [Nat.sub_self]; decide) c60)
    refine wa_sipush (x := 1000) dX7_entry_89 (by decide) ?_
    refine wa_iload dX7_entry_92 rfl ?_
    refine wa_imul dX7_entry_94 ?_
    rw [show (1000 : Int32) * nI s = nI (1000 * s) from nI_mul 1000 s]
    refine wa_aload_n dX7_entry_95 rfl ?_
    refine wa_iload_n dX7_entry_96 rfl ?_
    refine wa_iload dX7_entry_97 rfl ?_
    refine c_VI dX7_entry_99 (mm_programAt (i := i) (t := s) (by assumption) hi (hs)) lk_X7_72 rfl (isO_MO _ _ _) rfl (ltS (by assumption)) ?_
    rw [eP s (hs)]
    refine wa_iadd dX7_entry_102 ?_
    exact wa_ireturn dX7_entry_103 hQ
  | succ r ih =>
    intro t hk

    refine wa_aload_n dX7_entry_48 rfl ?_
    refine wa_iload_n dX7_entry_49 rfl ?_
    refine wa_iload dX7_entry_50 rfl ?_
    refine c_VI dX7_entry_52 (mm_programAt (i := i) (t := t) (by assumption) hi (by omega)) lk_X7_72 rfl (isO_MO _ _ _) rfl (ltS (by assumption)) ?_
    rw [eP t (by omega)]
    refine wa_if_eq 63 dX7_entry_55 rfl (fun c55 => ?_) (fun c55 => ?_)
    · refine wa_iload dX7_entry_63 rfl ?_
      refine wa_aload_n dX7_entry_65 rfl ?_
      refine wa_iload_n dX7_entry_66 rfl ?_
      refine wa_iload dX7_entry_67 rfl ?_
      refine c_VI dX7_entry_69 (mm_programAt (i := i) (t := t) (by assumption) hi (by omega)) lk_X7_72 rfl (isO_MO _ _ _) rfl (ltS (by assumption)) ?_
      rw [eP t (by omega)]
      refine wa_if_le 79 dX7_entry_72 rfl (fun c72 => ?_) (fun c72 => ?_)
      · refine wa_iconst (x := 0) dX7_entry_79 (by decide) ?_
        refine wa_isub dX7_entry_80 ?_
        refine wa_istore dX7_entry_81 rfl ?_
        refine wa_iinc (y := 1) dX7_entry_83 rfl (by decide) rfl ?_
        refine wa_goto 48 dX7_entry_86 rfl ?_
        first
        | exact absurd (by rw [c55]; decide) c72
        | exact absurd c72 (Int32.not_le.mpr ((hP.pos t).mpr c55))
        | (rw [nI_1 t, Int32.sub_zero, ← cnt_s0 c55]
           exact ih (t + 1) (by omega))
        | (rw [nI_1 t, show nI (cnt P s - cnt P t) - 1 = nI (cnt P s - cnt P (t + 1)) from (nI_sub (a := cnt P s - cnt P t) (b := 1) (by have := cnt_lt2 hP (s := t) (t := s) (by omega) c55; omega)).trans (by rw [cnt_s1 c55, Nat.sub_sub])]
           exact ih (t + 1) (by omega))
      · refine wa_iconst (x := 1) dX7_entry_75 (by decide) ?_
        refine wa_goto 80 dX7_entry_76 rfl ?_
        refine wa_isub dX7_entry_80 ?_
        refine wa_istore dX7_entry_81 rfl ?_
        refine wa_iinc (y := 1) dX7_entry_83 rfl (by decide) rfl ?_
        refine wa_goto 48 dX7_entry_86 rfl ?_
        first
        | exact absurd (by rw [c55]; decide) c72
        | exact absurd c72 (Int32.not_le.mpr ((hP.pos t).mpr c55))
        | (rw [nI_1 t, Int32.sub_zero, ← cnt_s0 c55]
           exact ih (t + 1) (by omega))
        | (rw [nI_1 t, show nI (cnt P s - cnt P t) - 1 = nI (cnt P s - cnt P (t + 1)) from (nI_sub (a := cnt P s - cnt P t) (b := 1) (by have := cnt_lt2 hP (s := t) (t := s) (by omega) c55; omega)).trans (by rw [cnt_s1 c55, Nat.sub_sub])]
           exact ih (t + 1) (by omega))
    · refine wa_iload dX7_entry_58 rfl ?_
      refine wa_if_le 89 dX7_entry_60 rfl (fun c60 => absurd c60 (nI_ge (a := 0) (b := cnt P s - cnt P t) (by have := cnt_lt2 hP (s := t) (t := s) (by omega) c55; omega) (by have := cnt_le P s; omega))) (fun c60 => ?_)
      refine wa_iload dX7_entry_63 rfl ?_
      refine wa_aload_n dX7_entry_65 rfl ?_
      refine wa_iload_n dX7_entry_66 rfl ?_
      refine wa_iload dX7_entry_67 rfl ?_
      refine c_VI dX7_entry_69 (mm_programAt (i := i) (t := t) (by assumption) hi (by omega)) lk_X7_72 rfl (isO_MO _ _ _) rfl (ltS (by assumption)) ?_
      rw [eP t (by omega)]
      refine wa_if_le 79 dX7_entry_72 rfl (fun c72 => ?_) (fun c72 => ?_)
      · refine wa_iconst (x := 0) dX7_entry_79 (by decide) ?_
        refine wa_isub dX7_entry_80 ?_
        refine wa_istore dX7_entry_81 rfl ?_
        refine wa_iinc (y := 1) dX7_entry_83 rfl (by decide) rfl ?_
        refine wa_goto 48 dX7_entry_86 rfl ?_
        first
        | exact absurd (by rw [c55]; decide) c72
        | exact absurd c72 (Int32.not_le.mpr ((hP.pos t).mpr c55))
        | (rw [nI_1 t, Int32.sub_zero, ← cnt_s0 c55]
           exact ih (t + 1) (by omega))
        | (rw [nI_1 t, show nI (cnt P s - cnt P t) - 1 = nI (cnt P s - cnt P (t + 1)) from (nI_sub (a := cnt P s - cnt P t) (b := 1) (by have := cnt_lt2 hP (s := t) (t := s) (by omega) c55; omega)).trans (by rw [cnt_s1 c55, Nat.sub_sub])]
           exact ih (t + 1) (by omega))
      · refine wa_iconst (x := 1) dX7_entry_75 (by decide) ?_
        refine wa_goto 80 dX7_entry_76 rfl ?_
        refine wa_isub dX7_entry_80 ?_
        refine wa_istore dX7_entry_81 rfl ?_
        refine wa_iinc (y := 1) dX7_entry_83 rfl (by decide) rfl ?_
        refine wa_goto 48 dX7_entry_86 rfl ?_
        first
        | exact absurd (by rw [c55]; decide) c72
        | exact absurd c72 (Int32.not_le.mpr ((hP.pos t).mpr c55))
        | (rw [nI_1 t, Int32.sub_zero, ← cnt_s0 c55]
           exact ih (t + 1) (by omega))
        | (rw [nI_1 t, show nI (cnt P s - cnt P t) - 1 = nI (cnt P s - cnt P (t + 1)) from (nI_sub (a := cnt P s - cnt P t) (b := 1) (by have := cnt_lt2 hP (s := t) (t := s) (by omega) c55; omega)).trans (by rw [cnt_s1 c55, Nat.sub_sub])]
           exact ih (t + 1) (by omega))
theorem mm_entry_0 {n : Nat} {S : SS} {T : Int} (hn : 279 ≤ n) (hm : mr S = 268) (hV : VG T (S.1 268)) {i s : Nat} (hi : i < 6) (hs : s < 48) (h0 : ¬ pg (S.1 268) i s = 0) (h1 : rk S (nI i)) (h2 : inr (nI (cnt (pg (S.1 268) i) s)) 0 (nI (cnt (pg (S.1 268) i) 48) - 1)) : AM yX7_entry cX7_entry 6 (some .int) [] 4 0 0 [.ref 267, .int (nI i), .int (nI (cnt (pg (S.1 268) i) s))] n (Hp S) (PI (nI (1000 * s) + pg (S.1 268) i s) n (th S 0)) := by
  intro has
  change WA RX7 cX7_entry 6 [] _ _ 0 0 0 [some (.ref 267), some (.int (nI i)), some (.int (nI (cnt (pg (S.1 268) i) s))), none, none, none] [] n _
  have hVr : VG T (row S) := by rw [row_net hm]; exact hV
  have eP : ∀ t, t < 48 → (th S 0).1 (mr (th S 0)) (71 + 66 * i + (18 + t)) = pg (S.1 268) i t := fun t ht => (congrFun ((row_th S 0).trans (row_net hm)) _).trans (pg_at ht)
  refine wa_aload_n dX7_entry_0 rfl ?_
  refine wa_iload_n dX7_entry_1 rfl ?_
  refine c_VI dX7_entry_2 (mm_isRoom (by assumption) hVr (nI i)) lk_X7_347 rfl (isO_MO _ _ _) rfl (ltS (by assumption)) ?_
  rw [b2i_1 h1]
  refine wa_istore_n dX7_entry_5 rfl ?_
  refine wa_aload_n dX7_entry_6 rfl ?_
  refine wa_iload_n dX7_entry_7 rfl ?_
  refine wa_iload_n dX7_entry_8 rfl ?_
  refine wa_if_eq 33 dX7_entry_9 rfl (fun c9 => absurd c9 (by decide)) (fun c9 => ?_)
  refine wa_iload_n dX7_entry_12 rfl ?_
  refine wa_i2l dX7_entry_13 ?_
  refine wa_lconst (x := 0) dX7_entry_14 (by decide) ?_
  refine wa_aload_n dX7_entry_15 rfl ?_
  refine wa_iload_n dX7_entry_16 rfl ?_
  refine c_VI dX7_entry_17 (mm_entries hn hi hVr) lk_X7_300 rfl (isO_MO _ _ _) rfl (ltS (by assumption)) ?_
  rw [row_net hm]
  refine wa_iconst (x := 1) dX7_entry_20 (by decide) ?_
  refine wa_isub dX7_entry_21 ?_
  refine wa_i2l dX7_entry_22 ?_
  refine c_SI dX7_entry_23 (mm_inI (a := nI (cnt (pg (S.1 268) i) s)) (b := 0) (c := nI (cnt (pg (S.1 268) i) 48) - 1) (by decide) rfl) lk_X7_60 rfl ?_
  rw [b2i_1 h2]
  refine wa_if_eq 33 dX7_entry_26 rfl (fun c26 => absurd c26 (by decide)) (fun c26 => ?_)
  refine wa_iconst (x := 1) dX7_entry_29 (by decide) ?_
  refine wa_goto 34 dX7_entry_30 rfl ?_
  refine c_VI dX7_entry_34 (mm_passes2 (by assumption) _ _) lk_X7_352 rfl (isO_MO _ _ _) rfl (ltS (by assumption)) ?_
  rw [show p3 1 1 1 = 0 from rfl, b2i_1 rfl]
  refine wa_if_ne 42 dX7_entry_37 rfl (fun c37 => ?_) (fun c37 => absurd c37 (by decide))
  refine wa_iload_n dX7_entry_42 rfl ?_
  refine wa_istore dX7_entry_43 rfl ?_
  refine wa_iconst (x := 0) dX7_entry_45 (by decide) ?_
  refine wa_istore dX7_entry_46 rfl ?_
  exact lp_entry (S := th S 0) (P := pg (S.1 268) i) _ _ hn hi eP (hV.2.2.2.2 i) hs h0 ⟨Nat.le_refl _, Nat.le_refl _, ⟨_, rfl, rfl⟩, rfl, rfl, rfl⟩ s 0 (Nat.zero_add _)
theorem lp_exIn {Q : ab_Q} {n i N : Nat} {S : SS} (hn : 279 ≤ n) (hm : mr S = 268) (hi : i < 6) (h1 : i_fmod (S.1 268 1 + nI N - nI i) 336 = S.1 268 10) (h2 : ∀ m, m < N → 1 ≤ m → ¬ (i_fmod (S.1 268 1 + nI m - nI i) 336 = S.1 268 10)) (hQ : Q (.inl (some (.int (nI N)))) 0 0 n (Hp S)) :
    ∀ (r k : Nat), k + r = N → 1 ≤ k → WA RX7 cX7_exerciseIn 3 [] (ab_rm 2 0 0) Q 0 0 16 [some (.ref 267), some (.int (nI i)), some (.int (nI k))] [] n (Hp S) := by
  intro r
  induction r with
  | zero =>
    intro k hk
    have hk' : N = k := by omega
    subst hk'
    intro hk1
    refine wa_aload_n dX7_exerciseIn_16 rfl ?_
    refine wa_iload_n dX7_exerciseIn_17 rfl ?_
    refine wa_aload_n dX7_exerciseIn_18 rfl ?_
    refine g_MO (by assumption) 1 dX7_exerciseIn_19 fl_X7_17 (by decide) rfl ?_
    refine wa_iconst (x := 1) dX7_exerciseIn_22 (by decide) ?_
    refine s_iald (j := 1) isA_net dX7_exerciseIn_23 (ltS (by assumption)) rfl (by decide) ?_
    refine wa_iload_n dX7_exerciseIn_24 rfl ?_
    refine wa_iadd dX7_exerciseIn_25 ?_
    refine c_VI dX7_exerciseIn_26 (mm_isExercise hn _) lk_X7_122 rfl (isO_MO _ _ _) rfl (ltS (by assumption)) ?_
    rw [row_net hm, b2i_1 h1]
    refine wa_if_ne 38 dX7_exerciseIn_29 rfl (fun c29 => ?_) (fun c29 => absurd c29 (by decide))
    refine wa_iload_n dX7_exerciseIn_38 rfl ?_
    exact wa_ireturn dX7_exerciseIn_39 hQ
  | succ r ih =>
    intro k hk
    intro hk1
    refine wa_aload_n dX7_exerciseIn_16 rfl ?_
    refine wa_iload_n dX7_exerciseIn_17 rfl ?_
    refine wa_aload_n dX7_exerciseIn_18 rfl ?_
    refine g_MO (by assumption) 1 dX7_exerciseIn_19 fl_X7_17 (by decide) rfl ?_
    refine wa_iconst (x := 1) dX7_exerciseIn_22 (by decide) ?_
    refine s_iald (j := 1) isA_net dX7_exerciseIn_23 (ltS (by assumption)) rfl (by decide) ?_
    refine wa_iload_n dX7_exerciseIn_24 rfl ?_
    refine wa_iadd dX7_exerciseIn_25 ?_
    refine c_VI dX7_exerciseIn_26 (mm_isExercise hn _) lk_X7_122 rfl (isO_MO _ _ _) rfl (ltS (by assumption)) ?_
    rw [row_net hm, b2i_0 (h2 k (by omega) hk1)]
    refine wa_if_ne 38 dX7_exerciseIn_29 rfl (fun c29 => absurd rfl c29) (fun c29 => ?_)
    refine wa_iinc (y := 1) dX7_exerciseIn_32 rfl (by decide) rfl ?_
    refine wa_goto 16 dX7_exerciseIn_35 rfl ?_
    rw [nI_1 k]
    exact ih (k + 1) (by omega) (by omega)
theorem mm_exerciseIn_1 {n : Nat} {S : SS} {T : Int} (hn : 279 ≤ n) (hm : mr S = 268) (hV : VG T (S.1 268)) (r : Int32) (h1 : ¬ (rk S r)) : AM yX7_exerciseIn cX7_exerciseIn 3 (some .int) [] 2 0 0 [.ref 267, .int r] n (Hp S) (PI 0 n (th S 1)) := by
  intro has
  change WA RX7 cX7_exerciseIn 3 [] _ _ 0 0 0 [some (.ref 267), some (.int r), none] [] n _
  have hVr : VG T (row S) := by rw [row_net hm]; exact hV
  refine wa_aload_n dX7_exerciseIn_0 rfl ?_
  refine wa_aload_n dX7_exerciseIn_1 rfl ?_
  refine wa_iload_n dX7_exerciseIn_2 rfl ?_
  refine c_VI dX7_exerciseIn_3 (mm_isRoom (by assumption) hVr r) lk_X7_347 rfl (isO_MO _ _ _) rfl (ltS (by assumption)) ?_
  refine c_VI dX7_exerciseIn_6 (mm_passes1 (by assumption) (rk S r)) lk_X7_155 rfl (isO_MO _ _ _) rfl (ltS (by assumption)) ?_
  rw [b2i_0 (fun z => h1 z), if_neg h1]
  refine wa_if_ne 14 dX7_exerciseIn_9 rfl (fun c9 => absurd rfl c9) (fun c9 => ?_)
  refine wa_iconst (x := 0) dX7_exerciseIn_12 (by decide) ?_
  exact wa_ireturn dX7_exerciseIn_13 ⟨Nat.le_refl _, Nat.le_refl _, ⟨_, rfl, rfl⟩, rfl, rfl, rfl⟩
theorem mm_exerciseIn_0 {n : Nat} {S : SS} {T : Int} (hn : 279 ≤ n) (hm : mr S = 268) (hV : VG T (S.1 268)) {i N : Nat} (hi : i < 6) (hN : 1 ≤ N) (hx : i_fmod (S.1 268 1 + nI N - nI i) 336 = S.1 268 10) (hy : ∀ m, m < N → 1 ≤ m → ¬ (i_fmod (S.1 268 1 + nI m - nI i) 336 = S.1 268 10)) (h1 : rk S (nI i)) : AM yX7_exerciseIn cX7_exerciseIn 3 (some .int) [] 2 0 0 [.ref 267, .int (nI i)] n (Hp S) (PI (nI N) n (th S 0)) := by
  intro has
  change WA RX7 cX7_exerciseIn 3 [] _ _ 0 0 0 [some (.ref 267), some (.int (nI i)), none] [] n _
  have hVr : VG T (row S) := by rw [row_net hm]; exact hV
  have hV1 : VG T (row (th S 0)) := VG_th hVr 0
  have em : (th S 0).1 268 = S.1 268 := th_n S 0 (by decide)
  refine wa_aload_n dX7_exerciseIn_0 rfl ?_
  refine wa_aload_n dX7_exerciseIn_1 rfl ?_
  refine wa_iload_n dX7_exerciseIn_2 rfl ?_
  refine c_VI dX7_exerciseIn_3 (mm_isRoom (by assumption) hVr (nI i)) lk_X7_347 rfl (isO_MO _ _ _) rfl (ltS (by assumption)) ?_
  refine c_VI dX7_exerciseIn_6 (mm_passes1 (by assumption) (rk S (nI i))) lk_X7_155 rfl (isO_MO _ _ _) rfl (ltS (by assumption)) ?_
  rw [b2i_1 h1, if_pos h1]
  refine wa_if_ne 14 dX7_exerciseIn_9 rfl (fun c9 => ?_) (fun c9 => absurd c9 (by decide))
  refine wa_iconst (x := 1) dX7_exerciseIn_14 (by decide) ?_
  refine wa_istore_n dX7_exerciseIn_15 rfl ?_
  exact lp_exIn (S := th S 0) (N := N) hn hm hi (by rw [em]; exact hx) (fun m h h' => by rw [em]; exact hy m h h') ⟨Nat.le_refl _, Nat.le_refl _, ⟨_, rfl, rfl⟩, rfl, rfl, rfl⟩ (N - 1) 1 (by omega) (Nat.le_refl _)
def bg (L : Nat → Int32) : Nat → Int32 × Int32
  | 0 => (0, 2147483647)
  | k + 1 => (if L (k + 1) < (bg L k).2 then nI (k + 1) else (bg L k).1, i_min (bg L k).2 (L (k + 1)))
theorem nI_gt50 {k : Nat} (h : k = 50) : (50 : Int32) < nI (k + 1) := by
  subst h; decide
theorem lp_bestGain {Q : ab_Q} {n i : Nat} {S : SS} {T : Int} (g : Nat → Int32) (hn : 279 ≤ n) (hi : i < 6) (hm : mr S = 268) (eg : (f_aside S).1 268 = g) (hV : VG T g) (hT : T < 2147400000) (hQ : Q (.inl (some (.int (bg (fun a => lackN (upd g 8 (nI a)) i 48) 50).1))) 0 0 n (Hp (f_aside S))) :
    ∀ (r k : Nat) (X : SS) (l5 : Option Value), k + r = 50 → f_aside X = f_aside S → (r = 0 → X = f_aside S) → WA RX7 cX7_bestGain 6 [] (ab_rm 9 0 0) Q 0 0 23 [some (.ref 267), some (.int (nI i)), some (.int (bg (fun a => lackN (upd g 8 (nI a)) i 48) k).1), some (.int (bg (fun a => lackN (upd g 8 (nI a)) i 48) k).2), some (.int (nI (k + 1))), l5] [] n (Hp X) := by
  intro r
  induction r with
  | zero =>
    intro k X l5 hk hX h0
    have hk2 : k = 50 := by omega
    subst hk2
    rw [h0 rfl]
    refine wa_iload dX7_bestGain_23 rfl ?_
    refine wa_bipush (x := 50) dX7_bestGain_25 (by decide) ?_
    refine wa_icmp_gt 82 dX7_bestGain_27 rfl (fun c27 => ?_) (fun c27 => absurd (nI_gt50 (k := 50) (by omega)) c27)
    refine wa_iload_n dX7_bestGain_82 rfl ?_
    exact wa_ireturn dX7_bestGain_83 hQ
  | succ r ih =>
    intro k X l5 hk hX h0
    have e3 : row (su (f_aside S) 268 (upd g 8 (nI (k + 1)))) = upd g 8 (nI (k + 1)) := by
      show (su (f_aside S) 268 (upd g 8 (nI (k + 1)))).1 (mr S) = _
      rw [hm, su_s]
    have hV3 : VG T (row (su (f_aside S) 268 (upd g 8 (nI (k + 1))))) := by rw [e3]; exact upd_hdr _ hV (by decide) (by decide) (by decide) (by decide)
    refine wa_iload dX7_bestGain_23 rfl ?_
    refine wa_bipush (x := 50) dX7_bestGain_25 (by decide) ?_
    refine wa_icmp_gt 82 dX7_bestGain_27 rfl (fun c27 => absurd (nI_le (a := k + 1) (b := 50) (by omega) (by omega)) (Int32.not_le.mpr c27)) (fun c27 => ?_)
    refine wa_aload_n dX7_bestGain_30 rfl ?_
    refine c_VV dX7_bestGain_31 (mm_keepAside hn) lk_X7_373 rfl (isO_MO _ _ _) rfl (ltS (by assumption)) ?_
    rw [hX]
    refine wa_aload_n dX7_bestGain_34 rfl ?_
    refine g_MO (by assumption) 1 dX7_bestGain_35 fl_X7_17 (by decide) rfl ?_
    refine wa_bipush (x := 8) dX7_bestGain_38 (by decide) ?_
    refine wa_iload dX7_bestGain_40 rfl ?_
    refine s_iast (j := 8) isA_net dX7_bestGain_42 (ltS (by assumption)) rfl (by decide) ?_
    show WA _ _ _ _ _ _ _ _ _ _ _ _ (Hp (su (f_aside S) 268 (upd ((f_aside S).1 268) 8 (nI (k + 1)))))
    rw [eg]
    refine wa_aload_n dX7_bestGain_43 rfl ?_
    refine wa_aload_n dX7_bestGain_44 rfl ?_
    refine wa_iload_n dX7_bestGain_45 rfl ?_
    refine wa_bipush (x := 48) dX7_bestGain_46 (by decide) ?_
    refine c_VI dX7_bestGain_48 (mm_lackOf (N := 48) hn hi (by decide) hV3 (by omega)) lk_X7_382 rfl (isO_MO _ _ _) rfl (ltS (by assumption)) ?_
    rw [e3]
    refine c_VI dX7_bestGain_51 (mm_layBackS (by assumption) _ (TB_md (TB_su (TB_0 S) _) hm _)) lk_X7_379 rfl (isO_MO _ _ _) rfl (ltS (by assumption)) ?_
    refine wa_istore dX7_bestGain_54 rfl ?_
    refine wa_iload dX7_bestGain_56 rfl ?_
    refine wa_iload_n dX7_bestGain_58 rfl ?_
    refine wa_icmp_ge 67 dX7_bestGain_59 rfl (fun c59 => ?_) (fun c59 => ?_)
    · refine wa_iload_n dX7_bestGain_67 rfl ?_
      refine wa_istore_n dX7_bestGain_68 rfl ?_
      refine wa_iload_n dX7_bestGain_69 rfl ?_
      refine wa_iload dX7_bestGain_70 rfl ?_
      refine c_SI dX7_bestGain_72 (am_min _ _) lk_X7_100 rfl ?_
      refine wa_istore_n dX7_bestGain_75 rfl ?_
      refine wa_iinc (y := 1) dX7_bestGain_76 rfl (by decide) rfl ?_
      refine wa_goto 23 dX7_bestGain_79 rfl ?_
      first
      | (have e9 : bg (fun a => lackN (upd g 8 (nI a)) i 48) (k + 1) = (nI (k + 1), i_min (bg (fun a => lackN (upd g 8 (nI a)) i 48) k).2 (lackN (upd g 8 (nI (k + 1))) i 48)) := by
           show (if _ then _ else _, _) = _
           rw [if_pos (Int32.not_le.mp c59)]
         have := ih (k + 1) (f_aside S) (some (.int (lackN (upd g 8 (nI (k + 1))) i 48))) (by omega) (aside_2 S) (fun _ => rfl)
         rw [e9] at this
         rw [nI_1 (k + 1)]
         exact this)
      | (have e9 : bg (fun a => lackN (upd g 8 (nI a)) i 48) (k + 1) = ((bg (fun a => lackN (upd g 8 (nI a)) i 48) k).1, i_min (bg (fun a => lackN (upd g 8 (nI a)) i 48) k).2 (lackN (upd g 8 (nI (k + 1))) i 48)) := by
           show (if _ then _ else _, _) = _
           rw [if_neg (Int32.not_lt.mpr c59)]
         have := ih (k + 1) (f_aside S) (some (.int (lackN (upd g 8 (nI (k + 1))) i 48))) (by omega) (aside_2 S) (fun _ => rfl)
         rw [e9] at this
         rw [nI_1 (k + 1)]
         exact this)
    · refine wa_iload dX7_bestGain_62 rfl ?_
      refine wa_goto 68 dX7_bestGain_64 rfl ?_
      refine wa_istore_n dX7_bestGain_68 rfl ?_
      refine wa_iload_n dX7_bestGain_69 rfl ?_
      refine wa_iload dX7_bestGain_70 rfl ?_
      refine c_SI dX7_bestGain_72 (am_min _ _) lk_X7_100 rfl ?_
      refine wa_istore_n dX7_bestGain_75 rfl ?_
      refine wa_iinc (y := 1) dX7_bestGain_76 rfl (by decide) rfl ?_
      refine wa_goto 23 dX7_bestGain_79 rfl ?_
      first
      | (have e9 : bg (fun a => lackN (upd g 8 (nI a)) i 48) (k + 1) = (nI (k + 1), i_min (bg (fun a => lackN (upd g 8 (nI a)) i 48) k).2 (lackN (upd g 8 (nI (k + 1))) i 48)) := by
           show (if _ then _ else _, _) = _
           rw [if_pos (Int32.not_le.mp c59)]
         have := ih (k + 1) (f_aside S) (some (.int (lackN (upd g 8 (nI (k + 1))) i 48))) (by omega) (aside_2 S) (fun _ => rfl)
         rw [e9] at this
         rw [nI_1 (k + 1)]
         exact this)
      | (have e9 : bg (fun a => lackN (upd g 8 (nI a)) i 48) (k + 1) = ((bg (fun a => lackN (upd g 8 (nI a)) i 48) k).1, i_min (bg (fun a => lackN (upd g 8 (nI a)) i 48) k).2 (lackN (upd g 8 (nI (k + 1))) i 48)) := by
           show (if _ then _ else _, _) = _
           rw [if_neg (Int32.not_lt.mpr c59)]
         have := ih (k + 1) (f_aside S) (some (.int (lackN (upd g 8 (nI (k + 1))) i 48))) (by omega) (aside_2 S) (fun _ => rfl)
         rw [e9] at this
         rw [nI_1 (k + 1)]
         exact this)
theorem mm_bestGain_1 {n : Nat} {S : SS} {T : Int} (hn : 279 ≤ n) (hm : mr S = 268) (hV : VG T (S.1 268)) (hT : T < 2147400000) (r : Int32) (h1 : ¬ (rk S r)) : AM yX7_bestGain cX7_bestGain 6 (some .int) [] 9 0 0 [.ref 267, .int r] n (Hp S) (PI 0 n (th S 1)) := by
  intro has
  change WA RX7 cX7_bestGain 6 [] _ _ 0 0 0 [some (.ref 267), some (.int r), none, none, none, none] [] n _
  have hVr : VG T (row S) := by rw [row_net hm]; exact hV
  refine wa_aload_n dX7_bestGain_0 rfl ?_
  refine wa_aload_n dX7_bestGain_1 rfl ?_
  refine wa_iload_n dX7_bestGain_2 rfl ?_
  refine c_VI dX7_bestGain_3 (mm_isRoom (by assumption) hVr r) lk_X7_347 rfl (isO_MO _ _ _) rfl (ltS (by assumption)) ?_
  refine c_VI dX7_bestGain_6 (mm_passes1 (by assumption) (rk S r)) lk_X7_155 rfl (isO_MO _ _ _) rfl (ltS (by assumption)) ?_
  rw [b2i_0 (fun z => h1 z), if_neg h1]
  refine wa_if_ne 14 dX7_bestGain_9 rfl (fun c9 => absurd rfl c9) (fun c9 => ?_)
  refine wa_iconst (x := 0) dX7_bestGain_12 (by decide) ?_
  exact wa_ireturn dX7_bestGain_13 ⟨Nat.le_refl _, Nat.le_refl _, ⟨_, rfl, rfl⟩, rfl, rfl, rfl⟩
theorem mm_bestGain_0 {n : Nat} {S : SS} {T : Int} (hn : 279 ≤ n) (hm : mr S = 268) (hV : VG T (S.1 268)) (hT : T < 2147400000) {i : Nat} (hi : i < 6) (h1 : rk S (nI i)) : AM yX7_bestGain cX7_bestGain 6 (some .int) [] 9 0 0 [.ref 267, .int (nI i)] n (Hp S) (PI ((bg (fun a => lackN (upd (S.1 268) 8 (nI a)) i 48) 50).1) n (f_aside (th S 0))) := by
  intro has
  change WA RX7 cX7_bestGain 6 [] _ _ 0 0 0 [some (.ref 267), some (.int (nI i)), none, none, none, none] [] n _
  have hVr : VG T (row S) := by rw [row_net hm]; exact hV
  have hV1 : VG T (row (th S 0)) := VG_th hVr 0
  have eg : (f_aside (th S 0)).1 268 = S.1 268 := by
    have := row_aside (S := th S 0) hm
    rw [← th_net S, ← this]
    exact (congrArg (f_aside (th S 0)).1 hm).symm
  refine wa_aload_n dX7_bestGain_0 rfl ?_
  refine wa_aload_n dX7_bestGain_1 rfl ?_
  refine wa_iload_n dX7_bestGain_2 rfl ?_
  refine c_VI dX7_bestGain_3 (mm_isRoom (by assumption) hVr (nI i)) lk_X7_347 rfl (isO_MO _ _ _) rfl (ltS (by assumption)) ?_
  refine c_VI dX7_bestGain_6 (mm_passes1 (by assumption) (rk S (nI i))) lk_X7_155 rfl (isO_MO _ _ _) rfl (ltS (by assumption)) ?_
  rw [b2i_1 h1, if_pos h1]
  refine wa_if_ne 14 dX7_bestGain_9 rfl (fun c9 => ?_) (fun c9 => absurd c9 (by decide))
  refine wa_iconst (x := 0) dX7_bestGain_14 (by decide) ?_
  refine wa_istore_n dX7_bestGain_15 rfl ?_
  refine wa_ldcw dX7_bestGain_16 wv_X7_390 ?_
  refine wa_istore_n dX7_bestGain_19 rfl ?_
  refine wa_iconst (x := 1) dX7_bestGain_20 (by decide) ?_
  refine wa_istore dX7_bestGain_21 rfl ?_
  exact lp_bestGain (S := th S 0) (S.1 268) hn hi hm eg hV hT ⟨Nat.le_refl _, Nat.le_refl _, ⟨_, rfl, rfl⟩, rfl, rfl, rfl⟩ 50 0 (th S 0) none (Nat.zero_add _) rfl (fun z => absurd z (by decide))
