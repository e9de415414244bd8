/-! ValveRoomModel: slots and undo. Written by program (wip/whole/gen/m594.py) but for the heads. -/
theorem m467 (s : Nat) : (467 : Int32) * nI s = nI (467 * s) := nI_mul 467 s
theorem lp_keep {Q : ab_Q} {n s : Nat} {S : SS} (f : Nat → Int32) (hn : 279 ≤ n) (hs : s < 2) (hQ : ∀ l2, WA RX7 cX7_keep 3 [] (ab_rm 2 0 0) Q 0 0 46 [some (.ref 267), some (.int (nI s)), l2] [] n (Hp (su S 273 (cpo f (S.1 268) (467 * s) 467)))) :
    ∀ (r k : Nat), k + r = 467 → WA RX7 cX7_keep 3 [] (ab_rm 2 0 0) Q 0 0 15 [some (.ref 267), some (.int (nI s)), some (.int (nI k))] [] n (Hp (su S 273 (cpo f (S.1 268) (467 * s) k))) := by
  intro r
  induction r with
  | zero =>
    intro k hk
    have hk' : 467 = k := by omega
    
    have hk2 : k = 467 := by omega
    subst hk2
    refine wa_iload_n dX7_keep_15 rfl ?_
    refine wa_sipush (x := 467) dX7_keep_16 (by decide) ?_
    refine wa_icmp_ge 46 dX7_keep_19 rfl (fun c19 => ?_) (fun c19 => absurd (nI_le (a := 467) (Nat.le_refl _) (by omega)) c19)
    exact hQ _
  | succ r ih =>
    intro k hk
    have e : (su S 273 (cpo f (S.1 268) (467 * s) k)).1 268 k = S.1 268 k := by rw [su_n S _ (by decide)]
    refine wa_iload_n dX7_keep_15 rfl ?_
    refine wa_sipush (x := 467) dX7_keep_16 (by decide) ?_
    refine wa_icmp_ge 46 dX7_keep_19 rfl (fun c19 => absurd c19 (nI_ge (a := k) (b := 467) (by omega) (by omega))) (fun c19 => ?_)
    refine wa_aload_n dX7_keep_22 rfl ?_
    refine g_MO (by assumption) 15 dX7_keep_23 fl_X7_41 (by decide) rfl ?_
    refine wa_sipush (x := 467) dX7_keep_26 (by decide) ?_
    refine wa_iload_n dX7_keep_29 rfl ?_
    refine wa_imul dX7_keep_30 ?_
    refine wa_iload_n dX7_keep_31 rfl ?_
    refine wa_iadd dX7_keep_32 ?_
    rw [m467 s, nI_add (467 * s) k]
    refine wa_aload_n dX7_keep_33 rfl ?_
    refine g_MO (by assumption) 1 dX7_keep_34 fl_X7_17 (by decide) rfl ?_
    refine wa_iload_n dX7_keep_37 rfl ?_
    refine s_iald (j := k) isA_net dX7_keep_38 (ltS (by assumption)) (ix_nI (by omega)) (by omega) ?_
    rw [e]
    refine s_iast (j := 467 * s + k) isA_keeps dX7_keep_39 (ltS (by assumption)) (ix_nI (by omega)) (by omega) ?_
    rw [su_a, cpo_s]
    refine wa_iinc (y := 1) dX7_keep_40 rfl (by decide) rfl ?_
    refine wa_goto 15 dX7_keep_43 rfl ?_
    rw [nI_1 k]
    exact ih (k + 1) (by omega)
theorem mm_keep_1 {n : Nat} {S : SS} {T : Int} (hn : 279 ≤ n) (hm : mr S = 268) (hV : VG T (S.1 268)) (s : Int32) (h1 : ¬ (inr s 0 1)) : AM yX7_keep cX7_keep 3 (some .int) [] 2 0 0 [.ref 267, .int s] n (Hp S) (PI 0 n (th S 1)) := by
  intro has
  change WA RX7 cX7_keep 3 [] _ _ 0 0 0 [some (.ref 267), some (.int s), none] [] n _
  have hVr : VG T (row S) := by rw [row_net hm]; exact hV
  refine wa_aload_n dX7_keep_0 rfl ?_
  refine wa_iload_n dX7_keep_1 rfl ?_
  refine c_SI dX7_keep_2 (mm_isKeep _) lk_X7_418 rfl ?_
  refine c_VI dX7_keep_5 (mm_passes1 (by assumption) (inr s 0 1)) lk_X7_155 rfl (isO_MO _ _ _) rfl (ltS (by assumption)) ?_
  rw [b2i_0 (fun z => h1 z), if_neg h1]
  refine wa_if_ne 13 dX7_keep_8 rfl (fun c8 => absurd rfl c8) (fun c8 => ?_)
  refine wa_iconst (x := 0) dX7_keep_11 (by decide) ?_
  exact wa_ireturn dX7_keep_12 ⟨Nat.le_refl _, Nat.le_refl _, ⟨_, rfl, rfl⟩, rfl, rfl, rfl⟩
theorem mm_keep_0 {n : Nat} {S : SS} {T : Int} (hn : 279 ≤ n) (hm : mr S = 268) (hV : VG T (S.1 268)) {s : Nat} (hs : s < 2) (h1 : inr (nI s) 0 1) : AM yX7_keep cX7_keep 3 (some .int) [] 2 0 0 [.ref 267, .int (nI s)] n (Hp S) (PI (S.1 268 1) n (ss (su (th S 0) 273 (cpo (S.1 273) (S.1 268) (467 * s) 467)) 274 s 1)) := by
  intro has
  change WA RX7 cX7_keep 3 [] _ _ 0 0 0 [some (.ref 267), some (.int (nI s)), none] [] n _
  have hVr : VG T (row S) := by rw [row_net hm]; exact hV
  have hV1 : VG T (row (th S 0)) := VG_th hVr 0
  have em : (th S 0).1 268 = S.1 268 := th_n S 0 (by decide)
  have e3 : (th S 0).1 273 = S.1 273 := th_n S 0 (by decide)
  refine wa_aload_n dX7_keep_0 rfl ?_
  refine wa_iload_n dX7_keep_1 rfl ?_
  refine c_SI dX7_keep_2 (mm_isKeep _) lk_X7_418 rfl ?_
  refine c_VI dX7_keep_5 (mm_passes1 (by assumption) (inr (nI s) 0 1)) lk_X7_155 rfl (isO_MO _ _ _) rfl (ltS (by assumption)) ?_
  rw [b2i_1 h1, if_pos h1]
  refine wa_if_ne 13 dX7_keep_8 rfl (fun c8 => ?_) (fun c8 => absurd c8 (by decide))
  refine wa_iconst (x := 0) dX7_keep_13 (by decide) ?_
  refine wa_istore_n dX7_keep_14 rfl ?_
  refine wa_cg (S1 := su (th S 0) 273 (cpo (S.1 273) ((th S 0).1 268) (467 * s) 0)) (by rw [cpo_0, ← e3]; exact su_self (th S 0) 273) ?_
  refine lp_keep (S := th S 0) (S.1 273) hn hs (fun l2 => ?_) 467 0 (Nat.zero_add _)
  rw [em]
  refine wa_aload_n dX7_keep_46 rfl ?_
  refine g_MO (by assumption) 16 dX7_keep_47 fl_X7_44 (by decide) rfl ?_
  refine wa_iload_n dX7_keep_50 rfl ?_
  refine wa_iconst (x := 1) dX7_keep_51 (by decide) ?_
  refine s_zast (j := s) isA_isFull dX7_keep_52 (ltS (by assumption)) (ix_nI (by omega)) (by omega) ?_
  refine wa_aload_n dX7_keep_53 rfl ?_
  refine g_MO (by assumption) 1 dX7_keep_54 fl_X7_17 (by decide) rfl ?_
  refine wa_iconst (x := 1) dX7_keep_57 (by decide) ?_
  refine s_iald (j := 1) isA_net dX7_keep_58 (ltS (by assumption)) rfl (by decide) ?_
  exact wa_ireturn dX7_keep_59 ⟨Nat.le_refl _, Nat.le_refl _, ⟨_, rfl, rfl⟩, rfl, rfl, rfl⟩
theorem lp_restore {Q : ab_Q} {n s : Nat} {S : SS} (f : Nat → Int32) (hn : 279 ≤ n) (hs : s < 2) (hQ : ∀ l2, WA RX7 cX7_restore 3 [] (ab_rm 2 0 0) Q 0 0 71 [some (.ref 267), some (.int (nI s)), l2] [] n (Hp (su S 268 (cp f (fun j => S.1 273 (467 * s + j)) 467)))) :
    ∀ (r k : Nat), k + r = 467 → WA RX7 cX7_restore 3 [] (ab_rm 2 0 0) Q 0 0 40 [some (.ref 267), some (.int (nI s)), some (.int (nI k))] [] n (Hp (su S 268 (cp f (fun j => S.1 273 (467 * s + j)) k))) := by
  intro r
  induction r with
  | zero =>
    intro k hk
    have hk' : 467 = k := by omega
    
    have hk2 : k = 467 := by omega
    subst hk2
    refine wa_iload_n dX7_restore_40 rfl ?_
    refine wa_sipush (x := 467) dX7_restore_41 (by decide) ?_
    refine wa_icmp_ge 71 dX7_restore_44 rfl (fun c44 => ?_) (fun c44 => absurd (nI_le (a := 467) (Nat.le_refl _) (by omega)) c44)
    exact hQ _
  | succ r ih =>
    intro k hk
    have e : (su S 268 (cp f (fun j => S.1 273 (467 * s + j)) k)).1 273 (467 * s + k) = S.1 273 (467 * s + k) := by rw [su_n S _ (by decide)]
    have e2 : upd (cp f (fun j => S.1 273 (467 * s + j)) k) k (S.1 273 (467 * s + k)) = cp f (fun j => S.1 273 (467 * s + j)) (k + 1) := cp_s f (fun j => S.1 273 (467 * s + j)) k
    refine wa_iload_n dX7_restore_40 rfl ?_
    refine wa_sipush (x := 467) dX7_restore_41 (by decide) ?_
    refine wa_icmp_ge 71 dX7_restore_44 rfl (fun c44 => absurd c44 (nI_ge (a := k) (b := 467) (by omega) (by omega))) (fun c44 => ?_)
    refine wa_aload_n dX7_restore_47 rfl ?_
    refine g_MO (by assumption) 1 dX7_restore_48 fl_X7_17 (by decide) rfl ?_
    refine wa_iload_n dX7_restore_51 rfl ?_
    refine wa_aload_n dX7_restore_52 rfl ?_
    refine g_MO (by assumption) 15 dX7_restore_53 fl_X7_41 (by decide) rfl ?_
    refine wa_sipush (x := 467) dX7_restore_56 (by decide) ?_
    refine wa_iload_n dX7_restore_59 rfl ?_
    refine wa_imul dX7_restore_60 ?_
    refine wa_iload_n dX7_restore_61 rfl ?_
    refine wa_iadd dX7_restore_62 ?_
    rw [m467 s, nI_add (467 * s) k]
    refine s_iald (j := 467 * s + k) isA_keeps dX7_restore_63 (ltS (by assumption)) (ix_nI (by omega)) (by omega) ?_
    rw [e]
    refine s_iast (j := k) isA_net dX7_restore_64 (ltS (by assumption)) (ix_nI (by omega)) (by omega) ?_
    rw [su_a, e2]
    refine wa_iinc (y := 1) dX7_restore_65 rfl (by decide) rfl ?_
    refine wa_goto 40 dX7_restore_68 rfl ?_
    rw [nI_1 k]
    exact ih (k + 1) (by omega)
theorem lp_undo {Q : ab_Q} {n s : Nat} {S : SS} (f : Nat → Int32) (hn : 279 ≤ n) (hs : s < 6) (h18 : S.1 267 18 = nI s) (hQ : ∀ l2, WA RX7 cX7_undo 2 [] (ab_rm 2 0 0) Q 0 0 67 [some (.ref 267), l2] [] n (Hp (su S 268 (cp f (fun j => S.1 275 (467 * s + j)) 467)))) :
    ∀ (r k : Nat), k + r = 467 → WA RX7 cX7_undo 2 [] (ab_rm 2 0 0) Q 0 0 33 [some (.ref 267), some (.int (nI k))] [] n (Hp (su S 268 (cp f (fun j => S.1 275 (467 * s + j)) k))) := by
  intro r
  induction r with
  | zero =>
    intro k hk
    have hk' : 467 = k := by omega
    
    have hk2 : k = 467 := by omega
    subst hk2
    refine wa_iload_n dX7_undo_33 rfl ?_
    refine wa_sipush (x := 467) dX7_undo_34 (by decide) ?_
    refine wa_icmp_ge 67 dX7_undo_37 rfl (fun c37 => ?_) (fun c37 => absurd (nI_le (a := 467) (Nat.le_refl _) (by omega)) c37)
    exact hQ _
  | succ r ih =>
    intro k hk
    have e : (su S 268 (cp f (fun j => S.1 275 (467 * s + j)) k)).1 275 (467 * s + k) = S.1 275 (467 * s + k) := by rw [su_n S _ (by decide)]
    have e2 : upd (cp f (fun j => S.1 275 (467 * s + j)) k) k (S.1 275 (467 * s + k)) = cp f (fun j => S.1 275 (467 * s + j)) (k + 1) := cp_s f (fun j => S.1 275 (467 * s + j)) k
    have e18 : (su S 268 (cp f (fun j => S.1 275 (467 * s + j)) k)).1 267 18 = nI s := by rw [su_n S _ (by decide)]; exact h18
    refine wa_iload_n dX7_undo_33 rfl ?_
    refine wa_sipush (x := 467) dX7_undo_34 (by decide) ?_
    refine wa_icmp_ge 67 dX7_undo_37 rfl (fun c37 => absurd c37 (nI_ge (a := k) (b := 467) (by omega) (by omega))) (fun c37 => ?_)
    refine wa_aload_n dX7_undo_40 rfl ?_
    refine g_MO (by assumption) 1 dX7_undo_41 fl_X7_17 (by decide) rfl ?_
    refine wa_iload_n dX7_undo_44 rfl ?_
    refine wa_aload_n dX7_undo_45 rfl ?_
    refine g_MO (by assumption) 17 dX7_undo_46 fl_X7_47 (by decide) rfl ?_
    refine wa_sipush (x := 467) dX7_undo_49 (by decide) ?_
    refine wa_aload_n dX7_undo_52 rfl ?_
    refine g_MO (by assumption) 18 dX7_undo_53 fl_X7_421 (by decide) rfl ?_
    refine wa_imul dX7_undo_56 ?_
    refine wa_iload_n dX7_undo_57 rfl ?_
    refine wa_iadd dX7_undo_58 ?_
    rw [e18, m467 s, nI_add (467 * s) k]
    refine s_iald (j := 467 * s + k) isA_mpast dX7_undo_59 (ltS (by assumption)) (ix_nI (by omega)) (by omega) ?_
    rw [e]
    refine s_iast (j := k) isA_net dX7_undo_60 (ltS (by assumption)) (ix_nI (by omega)) (by omega) ?_
    rw [su_a, e2]
    refine wa_iinc (y := 1) dX7_undo_61 rfl (by decide) rfl ?_
    refine wa_goto 33 dX7_undo_64 rfl ?_
    rw [nI_1 k]
    exact ih (k + 1) (by omega)
theorem mm_restore_1 {n : Nat} {S : SS} (hn : 279 ≤ n) (s : Int32) (h1 : ¬ inr s 0 1) : AM yX7_restore cX7_restore 3 (some .int) [] 2 0 0 [.ref 267, .int s] n (Hp S) (PI 0 n (th S 1)) := by
  intro has
  change WA RX7 cX7_restore 3 [] _ _ 0 0 0 [some (.ref 267), some (.int s), none] [] n _
  refine wa_aload_n dX7_restore_0 rfl ?_
  refine wa_iload_n dX7_restore_1 rfl ?_
  refine c_SI dX7_restore_2 (mm_isKeep _) lk_X7_418 rfl ?_
  refine wa_iload_n dX7_restore_5 rfl ?_
  refine c_SI dX7_restore_6 (mm_isKeep _) lk_X7_418 rfl ?_
  rw [b2i_0 h1]
  refine wa_if_eq 21 dX7_restore_9 rfl (fun c9 => ?_) (fun c9 => absurd rfl c9)
  refine wa_iconst (x := 1) dX7_restore_21 (by decide) ?_
  refine wa_goto 26 dX7_restore_22 rfl ?_
  refine c_VI dX7_restore_26 (mm_passes2 (by assumption) _ _) lk_X7_352 rfl (isO_MO _ _ _) rfl (ltS (by assumption)) ?_
  rw [show p3 0 1 1 = 1 from rfl, b2i_0 (by decide)]
  refine wa_if_ne 34 dX7_restore_29 rfl (fun c29 => absurd rfl c29) (fun c29 => ?_)
  refine wa_iconst (x := 0) dX7_restore_32 (by decide) ?_
  exact wa_ireturn dX7_restore_33 ⟨Nat.le_refl _, Nat.le_refl _, ⟨_, rfl, rfl⟩, rfl, rfl, rfl⟩
theorem mm_restore_2 {n s : Nat} {S : SS} (hn : 279 ≤ n) (hs : s < 2) (h1 : inr (nI s) 0 1) (h2 : S.1 274 s = 0) : AM yX7_restore cX7_restore 3 (some .int) [] 2 0 0 [.ref 267, .int (nI s)] n (Hp S) (PI 0 n (th S 2)) := by
  intro has
  change WA RX7 cX7_restore 3 [] _ _ 0 0 0 [some (.ref 267), some (.int (nI s)), none] [] n _
  refine wa_aload_n dX7_restore_0 rfl ?_
  refine wa_iload_n dX7_restore_1 rfl ?_
  refine c_SI dX7_restore_2 (mm_isKeep _) lk_X7_418 rfl ?_
  refine wa_iload_n dX7_restore_5 rfl ?_
  refine c_SI dX7_restore_6 (mm_isKeep _) lk_X7_418 rfl ?_
  rw [b2i_1 h1]
  refine wa_if_eq 21 dX7_restore_9 rfl (fun c9 => absurd c9 (by decide)) (fun c9 => ?_)
  refine wa_aload_n dX7_restore_12 rfl ?_
  refine g_MO (by assumption) 16 dX7_restore_13 fl_X7_44 (by decide) rfl ?_
  refine wa_iload_n dX7_restore_16 rfl ?_
  refine s_zald (j := s) isA_isFull dX7_restore_17 (ltS (by assumption)) (ix_nI (by omega)) (by omega) ?_
  refine wa_if_eq 25 dX7_restore_18 rfl (fun c18 => ?_) (fun c18 => absurd h2 c18)
  refine wa_iconst (x := 0) dX7_restore_25 (by decide) ?_
  refine c_VI dX7_restore_26 (mm_passes2 (by assumption) _ _) lk_X7_352 rfl (isO_MO _ _ _) rfl (ltS (by assumption)) ?_
  rw [show p3 1 0 1 = 2 from rfl, b2i_0 (by decide)]
  refine wa_if_ne 34 dX7_restore_29 rfl (fun c29 => absurd rfl c29) (fun c29 => ?_)
  refine wa_iconst (x := 0) dX7_restore_32 (by decide) ?_
  exact wa_ireturn dX7_restore_33 ⟨Nat.le_refl _, Nat.le_refl _, ⟨_, rfl, rfl⟩, rfl, rfl, rfl⟩
theorem mm_restore_0 {n s : Nat} {S : SS} {T : Int} (hn : 279 ≤ n) (hm : mr S = 268) (hV : VG T (S.1 268)) (hM : RM S) (hT : T < 2147400000) (hs : s < 2) (h1 : inr (nI s) 0 1) (h2 : ¬ S.1 274 s = 0) : AM yX7_restore cX7_restore 3 (some .int) [] 2 0 0 [.ref 267, .int (nI s)] n (Hp S) (PI (S.1 273 (467 * s + 1)) n (su (f_rem (th S 0)) 268 (cp (S.1 268) (fun j => S.1 273 (467 * s + j)) 467))) := by
  intro has
  change WA RX7 cX7_restore 3 [] _ _ 0 0 0 [some (.ref 267), some (.int (nI s)), none] [] n _
  have hM1 : RM (th S 0) := RM_th hM 0
  have em : (th S 0).1 268 = S.1 268 := th_n S 0 (by decide)
  have er : row (f_rem (th S 0)) = S.1 268 := (row_rem (S := th S 0) hm).trans em
  have en : (f_rem (th S 0)).1 268 = S.1 268 := (rem_n _ (by decide) (by decide)).trans em
  have e3 : (f_rem (th S 0)).1 273 = S.1 273 := (rem_n _ (by decide) (by decide)).trans (th_n S 0 (by decide))
  refine wa_aload_n dX7_restore_0 rfl ?_
  refine wa_iload_n dX7_restore_1 rfl ?_
  refine c_SI dX7_restore_2 (mm_isKeep _) lk_X7_418 rfl ?_
  refine wa_iload_n dX7_restore_5 rfl ?_
  refine c_SI dX7_restore_6 (mm_isKeep _) lk_X7_418 rfl ?_
  rw [b2i_1 h1]
  refine wa_if_eq 21 dX7_restore_9 rfl (fun c9 => absurd c9 (by decide)) (fun c9 => ?_)
  refine wa_aload_n dX7_restore_12 rfl ?_
  refine g_MO (by assumption) 16 dX7_restore_13 fl_X7_44 (by decide) rfl ?_
  refine wa_iload_n dX7_restore_16 rfl ?_
  refine s_zald (j := s) isA_isFull dX7_restore_17 (ltS (by assumption)) (ix_nI (by omega)) (by omega) ?_
  refine wa_if_eq 25 dX7_restore_18 rfl (fun c18 => absurd c18 h2) (fun c18 => ?_)
  refine wa_iconst (x := 1) dX7_restore_21 (by decide) ?_
  refine wa_goto 26 dX7_restore_22 rfl ?_
  refine c_VI dX7_restore_26 (mm_passes2 (by assumption) _ _) lk_X7_352 rfl (isO_MO _ _ _) rfl (ltS (by assumption)) ?_
  rw [show p3 1 1 1 = 0 from rfl, b2i_1 rfl]
  refine wa_if_ne 34 dX7_restore_29 rfl (fun c29 => ?_) (fun c29 => absurd c29 (by decide))
  refine wa_aload_n dX7_restore_34 rfl ?_
  refine c_VV dX7_restore_35 (mm_remember (by assumption) (by assumption)) lk_X7_340 rfl (isO_MO _ _ _) rfl (ltS (by assumption)) ?_
  refine wa_iconst (x := 0) dX7_restore_38 (by decide) ?_
  refine wa_istore_n dX7_restore_39 rfl ?_
  refine wa_cg (S1 := su (f_rem (th S 0)) 268 (cp (S.1 268) (fun j => (f_rem (th S 0)).1 273 (467 * s + j)) 0)) (by rw [cp_0, ← en]; exact su_self (f_rem (th S 0)) 268) ?_
  refine lp_restore (S := f_rem (th S 0)) (S.1 268) hn hs (fun l2 => ?_) 467 0 (Nat.zero_add _)
  rw [e3]
  refine wa_aload_n dX7_restore_71 rfl ?_
  refine g_MO (by assumption) 1 dX7_restore_72 fl_X7_17 (by decide) rfl ?_
  refine wa_iconst (x := 1) dX7_restore_75 (by decide) ?_
  refine s_iald (j := 1) isA_net dX7_restore_76 (ltS (by assumption)) rfl (by decide) ?_
  exact wa_ireturn dX7_restore_77 ⟨Nat.le_refl _, Nat.le_refl _, ⟨_, rfl, rfl⟩, rfl, rfl, rfl⟩
theorem mm_undo_1 {n : Nat} {S : SS} (hn : 279 ≤ n) (h1 : ¬ 0 < S.1 267 18) : AM yX7_undo cX7_undo 2 (some .int) [] 2 0 0 [.ref 267] n (Hp S) (PI 0 n (th S 1)) := by
  intro has
  change WA RX7 cX7_undo 2 [] _ _ 0 0 0 [some (.ref 267), none] [] n _
  refine wa_aload_n dX7_undo_0 rfl ?_
  refine wa_aload_n dX7_undo_1 rfl ?_
  refine g_MO (by assumption) 18 dX7_undo_2 fl_X7_421 (by decide) rfl ?_
  refine wa_if_le 12 dX7_undo_5 rfl (fun c5 => ?_) (fun c5 => absurd (Int32.not_lt.mp h1) c5)
  refine wa_iconst (x := 0) dX7_undo_12 (by decide) ?_
  refine c_VI dX7_undo_13 (mm_passes (by assumption) _) lk_X7_155 rfl (isO_MO _ _ _) rfl (ltS (by assumption)) ?_
  rw [show p3 0 1 1 = 1 from rfl, b2i_0 (by decide)]
  refine wa_if_ne 21 dX7_undo_16 rfl (fun c16 => absurd rfl c16) (fun c16 => ?_)
  refine wa_iconst (x := 0) dX7_undo_19 (by decide) ?_
  exact wa_ireturn dX7_undo_20 ⟨Nat.le_refl _, Nat.le_refl _, ⟨_, rfl, rfl⟩, rfl, rfl, rfl⟩
theorem mm_undo_0 {n s : Nat} {S : SS} (hn : 279 ≤ n) (hs : s < 6) (h1 : S.1 267 18 = nI (s + 1)) : AM yX7_undo cX7_undo 2 (some .int) [] 2 0 0 [.ref 267] n (Hp S) (PI (nI s) n (su (ss (th S 0) 267 18 (nI s)) 268 (cp (S.1 268) (fun j => S.1 275 (467 * s + j)) 467))) := by
  intro has
  change WA RX7 cX7_undo 2 [] _ _ 0 0 0 [some (.ref 267), none] [] n _
  have e8 : (ss (th S 0) 267 18 (nI s)).1 268 = S.1 268 := (su_n (th S 0) (upd ((th S 0).1 267) 18 (nI s)) (show (268 : Nat) ≠ 267 by decide)).trans (th_n S 0 (by decide))
  have e5 : (ss (th S 0) 267 18 (nI s)).1 275 = S.1 275 := (su_n (th S 0) (upd ((th S 0).1 267) 18 (nI s)) (show (275 : Nat) ≠ 267 by decide)).trans (th_n S 0 (by decide))
  have h18 : (ss (th S 0) 267 18 (nI s)).1 267 18 = nI s := by rw [ss_1, if_pos ⟨rfl, rfl⟩]
  refine wa_aload_n dX7_undo_0 rfl ?_
  refine wa_aload_n dX7_undo_1 rfl ?_
  refine g_MO (by assumption) 18 dX7_undo_2 fl_X7_421 (by decide) rfl ?_
  refine wa_if_le 12 dX7_undo_5 rfl (fun c5 => absurd c5 (by rw [h1]; exact nI_ge (a := 0) (b := s + 1) (by omega) (by omega))) (fun c5 => ?_)
  refine wa_iconst (x := 1) dX7_undo_8 (by decide) ?_
  refine wa_goto 13 dX7_undo_9 rfl ?_
  refine c_VI dX7_undo_13 (mm_passes (by assumption) _) lk_X7_155 rfl (isO_MO _ _ _) rfl (ltS (by assumption)) ?_
  rw [show p3 1 1 1 = 0 from rfl, b2i_1 rfl]
  refine wa_if_ne 21 dX7_undo_16 rfl (fun c16 => ?_) (fun c16 => absurd c16 (by decide))
  refine wa_aload_n dX7_undo_21 rfl ?_
  refine wa_dup dX7_undo_22 rfl ?_
  refine g_MO (by assumption) 18 dX7_undo_23 fl_X7_421 (by decide) rfl ?_
  refine wa_iconst (x := 1) dX7_undo_26 (by decide) ?_
  refine wa_isub dX7_undo_27 ?_
  rw [show ss S 267 0 0 = th S 0 from rfl, th_k S 0 (by decide), h1, nI_s1 s]
  refine p_MO (by assumption) 18 dX7_undo_28 fl_X7_421 (by decide) rfl rfl rfl rfl (fun _ _ _ => rfl) (Nat.le_of_ble_eq_true rfl) ?_
  refine wa_iconst (x := 0) dX7_undo_31 (by decide) ?_
  refine wa_istore_n dX7_undo_32 rfl ?_
  refine wa_cg (S1 := su (ss (th S 0) 267 18 (nI s)) 268 (cp (S.1 268) (fun j => (ss (th S 0) 267 18 (nI s)).1 275 (467 * s + j)) 0)) (by rw [cp_0, ← e8]; exact su_self (ss (th S 0) 267 18 (nI s)) 268) ?_
  refine lp_undo (S := ss (th S 0) 267 18 (nI s)) (S.1 268) hn hs h18 (fun l2 => ?_) 467 0 (Nat.zero_add _)
  have e9 : (su (ss (th S 0) 267 18 (nI s)) 268 (cp (S.1 268) (fun j => (ss (th S 0) 267 18 (nI s)).1 275 (467 * s + j)) 467)).1 267 18 = nI s := by rw [su_n _ _ (by decide)]; exact h18
  refine wa_aload_n dX7_undo_67 rfl ?_
  refine g_MO (by assumption) 18 dX7_undo_68 fl_X7_421 (by decide) rfl ?_
  exact wa_ireturn dX7_undo_71 ⟨Nat.le_refl _, Nat.le_refl _, ⟨_, rfl, rfl⟩, (ri e9), rfl, (by rw [e5])⟩
