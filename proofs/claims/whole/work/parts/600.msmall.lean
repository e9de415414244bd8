/-! ValveRoomModel: meanTemp, warmth, append, truncate, outputByte. Written by program (wip/whole/gen/m600.py) but for the heads. -/
theorem rdv {a b : UInt64} (h : a = b) : (.inl (some (.double a)) : ab_R) = .inl (some (.double b)) := by rw [h]
theorem rfv {a b : UInt32} (h : a = b) : (.inl (some (.float a)) : ab_R) = .inl (some (.float b)) := by rw [h]
/-- the mean temperature, as the reference has it -/
def mean (g : Nat → Int32) : UInt64 := if g 0 = 0 then FP.dconst0 else FP.ddiv (FP.i2d (sumN g 0 (rn g))) (FP.i2d (g 0))
def wmth (g : Nat → Int32) (i : Nat) : UInt32 := if g 1 = 0 then FP.fconst0 else FP.fdiv (FP.i2f (of g i 10)) (FP.i2f (100 * g 1))
theorem mm_meanTemp {n : Nat} {S : SS} {T : Int} (hn : 279 ≤ n) (hm : mr S = 268) (hV : VG T (S.1 268)) (hne : vf_n64 (FP.ddiv (FP.i2d (sumN (S.1 268) 0 (rn (S.1 268)))) (FP.i2d (S.1 268 0)))) : AM yX7_meanTemp cX7_meanTemp 1 (some .double) [] 2 0 0 [.ref 267] n (Hp S) (PA (.double (mean (S.1 268))) n (th S 0)) := by
  intro has
  change WA RX7 cX7_meanTemp 1 [] _ _ 0 0 0 [some (.ref 267)] [] n _
  have hVr : VG T (row S) := by rw [row_net hm]; exact hV
  have hV1 : VG T (row (th S 0)) := VG_th hVr 0
  have e1 : row (th S 0) = S.1 268 := (row_th S 0).trans (row_net hm)
  refine wa_aload_n dX7_meanTemp_0 rfl ?_
  refine wa_iconst (x := 0) dX7_meanTemp_1 (by decide) ?_
  refine p_MO (by assumption) 0 dX7_meanTemp_2 fl_X7_3 (by decide) rfl rfl rfl rfl (fun _ _ _ => rfl) (Nat.le_of_ble_eq_true rfl) ?_
  show WA _ _ _ _ _ _ _ _ _ _ _ _ (Hp (th S 0))
  refine wa_aload_n dX7_meanTemp_5 rfl ?_
  refine c_VI dX7_meanTemp_6 (mm_rooms (S := th S 0) hn) lk_X7_56 rfl (isO_MO _ _ _) rfl (ltS (by assumption)) ?_
  rw [show (th S 0).1 (mr (th S 0)) 0 = S.1 268 0 from congrFun e1 0]
  refine wa_if_ne 16 dX7_meanTemp_9 rfl (fun c9 => ?_) (fun c9 => ?_)
  · refine wa_aload_n dX7_meanTemp_16 rfl ?_
    refine wa_iconst (x := 0) dX7_meanTemp_17 (by decide) ?_
    refine c_VI dX7_meanTemp_18 (mm_sumOf (w := 0) hn (by decide) hV1) lk_X7_385 rfl (isO_MO _ _ _) rfl (ltS (by assumption)) ?_
    rw [e1]
    refine wa_i2d dX7_meanTemp_21 ?_
    refine wa_aload_n dX7_meanTemp_22 rfl ?_
    refine c_VI dX7_meanTemp_23 (mm_rooms (S := th S 0) hn) lk_X7_56 rfl (isO_MO _ _ _) rfl (ltS (by assumption)) ?_
    rw [show (th S 0).1 (mr (th S 0)) 0 = S.1 268 0 from congrFun e1 0]
    refine wa_i2d dX7_meanTemp_26 ?_
    refine wa_ddiv dX7_meanTemp_27 hne ?_
    exact wa_dreturn dX7_meanTemp_28 ⟨Nat.le_refl _, Nat.le_refl _, rfl, rdv (by unfold mean; first | rw [if_pos c9] | rw [if_neg c9]), rfl, rfl⟩
  · refine wa_dconst0 dX7_meanTemp_12 ?_
    refine wa_goto 28 dX7_meanTemp_13 rfl ?_
    exact wa_dreturn dX7_meanTemp_28 ⟨Nat.le_refl _, Nat.le_refl _, rfl, rdv (by unfold mean; first | rw [if_pos c9] | rw [if_neg c9]), rfl, rfl⟩
theorem mm_warmth_1 {n : Nat} {S : SS} {T : Int} (hn : 279 ≤ n) (hm : mr S = 268) (hV : VG T (S.1 268)) (r : Int32) (h1 : ¬ (rk S r)) : AM yX7_warmth cX7_warmth 2 (some .float) [] 2 0 0 [.ref 267, .int r] n (Hp S) (PA (.float FP.fconst0) n (th S 1)) := by
  intro has
  change WA RX7 cX7_warmth 2 [] _ _ 0 0 0 [some (.ref 267), some (.int r)] [] n _
  have hVr : VG T (row S) := by rw [row_net hm]; exact hV
  refine wa_aload_n dX7_warmth_0 rfl ?_
  refine wa_aload_n dX7_warmth_1 rfl ?_
  refine wa_iload_n dX7_warmth_2 rfl ?_
  refine c_VI dX7_warmth_3 (mm_isRoom (by assumption) hVr r) lk_X7_347 rfl (isO_MO _ _ _) rfl (ltS (by assumption)) ?_
  refine c_VI dX7_warmth_6 (mm_passes1 (by assumption) (rk S r)) lk_X7_155 rfl (isO_MO _ _ _) rfl (ltS (by assumption)) ?_
  rw [b2i_0 (fun z => h1 z), if_neg h1]
  refine wa_if_ne 14 dX7_warmth_9 rfl (fun c9 => absurd rfl c9) (fun c9 => ?_)
  refine wa_fconst0 dX7_warmth_12 ?_
  exact wa_freturn dX7_warmth_13 ⟨Nat.le_refl _, Nat.le_refl _, rfl, rfl, rfl, rfl⟩
theorem mm_warmth_0 {n : Nat} {S : SS} {T : Int} (hn : 279 ≤ n) (hm : mr S = 268) (hV : VG T (S.1 268)) {i : Nat} (hi : i < 6) (hne : ¬ S.1 268 1 = 0 → vf_n32 (FP.fdiv (FP.i2f (of (S.1 268) i 10)) (FP.i2f (100 * S.1 268 1)))) (h1 : rk S (nI i)) : AM yX7_warmth cX7_warmth 2 (some .float) [] 2 0 0 [.ref 267, .int (nI i)] n (Hp S) (PA (.float (wmth (S.1 268) i)) n (th S 0)) := by
  intro has
  change WA RX7 cX7_warmth 2 [] _ _ 0 0 0 [some (.ref 267), some (.int (nI i))] [] n _
  have hVr : VG T (row S) := by rw [row_net hm]; exact hV
  have hV1 : VG T (row (th S 0)) := VG_th hVr 0
  refine wa_aload_n dX7_warmth_0 rfl ?_
  refine wa_aload_n dX7_warmth_1 rfl ?_
  refine wa_iload_n dX7_warmth_2 rfl ?_
  refine c_VI dX7_warmth_3 (mm_isRoom (by assumption) hVr (nI i)) lk_X7_347 rfl (isO_MO _ _ _) rfl (ltS (by assumption)) ?_
  refine c_VI dX7_warmth_6 (mm_passes1 (by assumption) (rk S (nI i))) lk_X7_155 rfl (isO_MO _ _ _) rfl (ltS (by assumption)) ?_
  rw [b2i_1 h1, if_pos h1]
  refine wa_if_ne 14 dX7_warmth_9 rfl (fun c9 => ?_) (fun c9 => absurd c9 (by decide))
  refine wa_aload_n dX7_warmth_14 rfl ?_
  refine g_MO (by assumption) 1 dX7_warmth_15 fl_X7_17 (by decide) rfl ?_
  refine wa_iconst (x := 1) dX7_warmth_18 (by decide) ?_
  refine s_iald (j := 1) isA_net dX7_warmth_19 (ltS (by assumption)) rfl (by decide) ?_
  rw [show (th S 0).1 268 = S.1 268 from th_net S]
  refine wa_if_ne 27 dX7_warmth_20 rfl (fun c20 => ?_) (fun c20 => ?_)
  · refine wa_aload_n dX7_warmth_27 rfl ?_
    refine wa_iload_n dX7_warmth_28 rfl ?_
    refine wa_bipush (x := 10) dX7_warmth_29 (by decide) ?_
    refine c_VI dX7_warmth_31 (mm_of2 (S := th S 0) (w := 10) hn hi (by decide)) lk_X7_68 rfl (isO_MO _ _ _) rfl (ltS (by assumption)) ?_
    rw [row_th, row_net hm]
    refine wa_i2f dX7_warmth_34 ?_
    refine wa_bipush (x := 100) dX7_warmth_35 (by decide) ?_
    refine wa_aload_n dX7_warmth_37 rfl ?_
    refine g_MO (by assumption) 1 dX7_warmth_38 fl_X7_17 (by decide) rfl ?_
    refine wa_iconst (x := 1) dX7_warmth_41 (by decide) ?_
    refine s_iald (j := 1) isA_net dX7_warmth_42 (ltS (by assumption)) rfl (by decide) ?_
    rw [show (th S 0).1 268 = S.1 268 from th_net S]
    refine wa_imul dX7_warmth_43 ?_
    refine wa_i2f dX7_warmth_44 ?_
    refine wa_fdiv dX7_warmth_45 (hne c20) ?_
    exact wa_freturn dX7_warmth_46 ⟨Nat.le_refl _, Nat.le_refl _, rfl, rfv (by unfold wmth; first | rw [if_pos c20] | rw [if_neg c20]), rfl, rfl⟩
  · refine wa_fconst0 dX7_warmth_23 ?_
    refine wa_goto 46 dX7_warmth_24 rfl ?_
    exact wa_freturn dX7_warmth_46 ⟨Nat.le_refl _, Nat.le_refl _, rfl, rfv (by unfold wmth; first | rw [if_pos c20] | rw [if_neg c20]), rfl, rfl⟩
def il (S : SS) : Nat := (S.1 267 6).toInt.toNat
theorem il_e {S : SS} {m : Nat} (h : S.1 267 6 = nI m) (hm : m < 2 ^ 31) : il S = m := by
  unfold il; rw [h, nI_toInt hm]; rfl
def byt (v x : Int32) : Int32 := vp_nar .byte ((v >>> (x &&& 31)).toInt8.toInt32)
def f_app1 (v x : Int32) (S : SS) : SS := ss (ss S 271 (il S) (byt v x)) 267 6 (nI (il S + 1))
def f_app4 (v : Int32) (S : SS) : SS := f_app1 v (24 + -8 + -8 + -8) (f_app1 v (24 + -8 + -8) (f_app1 v (24 + -8) (f_app1 v 24 S)))
theorem app1_6 {v x : Int32} {S : SS} {m : Nat} (h : S.1 267 6 = nI m) (hm : m < 2 ^ 31) : (f_app1 v x S).1 267 6 = nI (m + 1) := by
  unfold f_app1; rw [il_e h hm]; rfl
theorem app4_6 {v : Int32} {S : SS} {m : Nat} (h : S.1 267 6 = nI m) (hm : m < 2 ^ 30) : (f_app4 v S).1 267 6 = nI (m + 4) :=
  app1_6 (app1_6 (app1_6 (app1_6 h (by omega)) (by omega)) (by omega)) (by omega)
theorem app_step {Q : ab_Q} {n m : Nat} {S : SS} {v x : Int32} (hn : 279 ≤ n) (h6 : S.1 267 6 = nI m) (hm : m < 500) (hx : ¬ x < 0) (K : WA RX7 cX7_appendFour 3 [] (ab_rm 0 0 0) Q 0 0 3 [some (.ref 267), some (.int v), some (.int (x + -8))] [] n (Hp (f_app1 v x S))) : WA RX7 cX7_appendFour 3 [] (ab_rm 0 0 0) Q 0 0 3 [some (.ref 267), some (.int v), some (.int (x))] [] n (Hp S) := by
  refine wa_iload_n dX7_appendFour_3 rfl ?_
  refine wa_if_lt 36 dX7_appendFour_4 rfl (fun c4 => absurd c4 hx) (fun c4 => ?_)
  refine wa_aload_n dX7_appendFour_7 rfl ?_
  refine g_MO (by assumption) 5 dX7_appendFour_8 fl_X7_30 (by decide) rfl ?_
  refine wa_aload_n dX7_appendFour_11 rfl ?_
  refine g_MO (by assumption) 6 dX7_appendFour_12 fl_X7_152 (by decide) rfl ?_
  refine wa_iload_n dX7_appendFour_15 rfl ?_
  refine wa_iload_n dX7_appendFour_16 rfl ?_
  refine wa_ishr dX7_appendFour_17 ?_
  refine wa_i2b dX7_appendFour_18 ?_
  refine s_bast (j := m) isA_input dX7_appendFour_19 (ltS (by assumption)) (by rw [h6]; exact ix_nI (by omega)) hm ?_
  refine wa_aload_n dX7_appendFour_20 rfl ?_
  refine wa_dup dX7_appendFour_21 rfl ?_
  refine g_MO (by assumption) 6 dX7_appendFour_22 fl_X7_152 (by decide) rfl ?_
  refine wa_iconst (x := 1) dX7_appendFour_25 (by decide) ?_
  refine wa_iadd dX7_appendFour_26 ?_
  refine p_MO (by assumption) 6 dX7_appendFour_27 fl_X7_152 (by decide) rfl rfl rfl rfl (fun _ _ _ => rfl) (Nat.le_of_ble_eq_true rfl) ?_
  refine wa_iinc (y := (-8)) dX7_appendFour_30 rfl (by decide) rfl ?_
  refine wa_goto 3 dX7_appendFour_33 rfl ?_
  exact wa_cg (by unfold f_app1; rw [il_e h6 (by omega)]; congr 1; show _ = S.1 267 6 + 1; rw [h6]; exact (nI_1 m).symm) K
theorem mm_appendFour {n m : Nat} {S : SS} (hn : 279 ≤ n) (h6 : S.1 267 6 = nI m) (hm : m + 4 ≤ 500) (v : Int32) : AM yX7_appendFour cX7_appendFour 3 none [] 0 0 0 [.ref 267, .int v] n (Hp S) (PV n (f_app4 v S)) := by
  intro has
  change WA RX7 cX7_appendFour 3 [] _ _ 0 0 0 [some (.ref 267), some (.int v), none] [] n _
  refine wa_bipush (x := 24) dX7_appendFour_0 (by decide) ?_
  refine wa_istore_n dX7_appendFour_2 rfl ?_
  refine app_step hn h6 (by omega) (by decide) ?_
  refine app_step hn (app1_6 h6 (by omega)) (by omega) (by decide) ?_
  refine app_step hn (app1_6 (app1_6 h6 (by omega)) (by omega)) (by omega) (by decide) ?_
  refine app_step hn (app1_6 (app1_6 (app1_6 h6 (by omega)) (by omega)) (by omega)) (by omega) (by decide) ?_
  refine wa_iload_n dX7_appendFour_3 rfl ?_
  refine wa_if_lt 36 dX7_appendFour_4 rfl (fun c4 => ?_) (fun c4 => absurd (by decide) c4)
  exact wa_return dX7_appendFour_36 ⟨Nat.le_refl _, Nat.le_refl _, rfl, rfl, rfl, rfl⟩
theorem mm_append_1 {n m : Nat} {S : SS} (hn : 279 ≤ n) (h6 : S.1 267 6 = nI m) (hm : m ≤ 500) (h1 : ¬ m ≤ 480) (a b c d e : Int32) : AM yX7_append cX7_append 6 (some .int) [] 2 0 0 [.ref 267, .int a, .int b, .int c, .int d, .int e] n (Hp S) (PI 0 n (th S 1)) := by
  intro has
  change WA RX7 cX7_append 6 [] _ _ 0 0 0 [some (.ref 267), some (.int a), some (.int b), some (.int c), some (.int d), some (.int e)] [] n _
  refine wa_aload_n dX7_append_0 rfl ?_
  refine wa_aload_n dX7_append_1 rfl ?_
  refine g_MO (by assumption) 6 dX7_append_2 fl_X7_152 (by decide) rfl ?_
  refine wa_bipush (x := 20) dX7_append_5 (by decide) ?_
  refine wa_iadd dX7_append_7 ?_
  rw [h6, show nI m + 20 = nI (m + 20) from nI_add m 20]
  refine wa_sipush (x := 500) dX7_append_8 (by decide) ?_
  refine wa_icmp_gt 18 dX7_append_11 rfl (fun c11 => ?_) (fun c11 => absurd (nI_lt (a := 500) (b := m + 20) (by omega) (by omega)) c11)
  refine wa_iconst (x := 0) dX7_append_18 (by decide) ?_
  refine c_VI dX7_append_19 (mm_passes1 hn False) lk_X7_155 rfl (isO_MO _ _ _) rfl (ltS (by assumption)) ?_
  rw [b2i_0 (P := False) id, if_neg (c := False) id]
  refine wa_if_ne 27 dX7_append_22 rfl (fun c22 => absurd rfl c22) (fun c22 => ?_)
  refine wa_iconst (x := 0) dX7_append_25 (by decide) ?_
  exact wa_ireturn dX7_append_26 ⟨Nat.le_refl _, Nat.le_refl _, ⟨_, rfl, rfl⟩, rfl, rfl, rfl⟩
theorem mm_append_0 {n m : Nat} {S : SS} (hn : 279 ≤ n) (h6 : S.1 267 6 = nI m) (h1 : m ≤ 480) (a b c d e : Int32) : AM yX7_append cX7_append 6 (some .int) [] 2 0 0 [.ref 267, .int a, .int b, .int c, .int d, .int e] n (Hp S) (PI (nI (m + 20)) n (f_app4 e (f_app4 d (f_app4 c (f_app4 b (f_app4 a (th S 0))))))) := by
  intro has
  change WA RX7 cX7_append 6 [] _ _ 0 0 0 [some (.ref 267), some (.int a), some (.int b), some (.int c), some (.int d), some (.int e)] [] n _
  refine wa_aload_n dX7_append_0 rfl ?_
  refine wa_aload_n dX7_append_1 rfl ?_
  refine g_MO (by assumption) 6 dX7_append_2 fl_X7_152 (by decide) rfl ?_
  refine wa_bipush (x := 20) dX7_append_5 (by decide) ?_
  refine wa_iadd dX7_append_7 ?_
  rw [h6, show nI m + 20 = nI (m + 20) from nI_add m 20]
  refine wa_sipush (x := 500) dX7_append_8 (by decide) ?_
  refine wa_icmp_gt 18 dX7_append_11 rfl (fun c11 => absurd c11 (Int32.not_lt.mpr (nI_le (a := m + 20) (b := 500) (by omega) (by omega)))) (fun c11 => ?_)
  refine wa_iconst (x := 1) dX7_append_14 (by decide) ?_
  refine wa_goto 19 dX7_append_15 rfl ?_
  refine c_VI dX7_append_19 (mm_passes1 hn True) lk_X7_155 rfl (isO_MO _ _ _) rfl (ltS (by assumption)) ?_
  rw [b2i_1 (P := True) trivial, if_pos (c := True) trivial]
  refine wa_if_ne 27 dX7_append_22 rfl (fun c22 => ?_) (fun c22 => absurd c22 (by decide))
  refine wa_aload_n dX7_append_27 rfl ?_
  refine wa_iload_n dX7_append_28 rfl ?_
  refine c_VV dX7_append_29 (mm_appendFour (S := (th S 0)) hn (show (th S 0).1 267 6 = nI m from (th_k S 0 (by decide)).trans h6) (by omega) a) lk_X7_159 rfl (isO_MO _ _ _) rfl (ltS (by assumption)) ?_
  refine wa_aload_n dX7_append_32 rfl ?_
  refine wa_iload_n dX7_append_33 rfl ?_
  refine c_VV dX7_append_34 (mm_appendFour (S := (f_app4 a (th S 0))) hn (app4_6 (show (th S 0).1 267 6 = nI m from (th_k S 0 (by decide)).trans h6) (by omega)) (by omega) b) lk_X7_159 rfl (isO_MO _ _ _) rfl (ltS (by assumption)) ?_
  refine wa_aload_n dX7_append_37 rfl ?_
  refine wa_iload_n dX7_append_38 rfl ?_
  refine c_VV dX7_append_39 (mm_appendFour (S := (f_app4 b (f_app4 a (th S 0)))) hn (app4_6 (app4_6 (show (th S 0).1 267 6 = nI m from (th_k S 0 (by decide)).trans h6) (by omega)) (by omega)) (by omega) c) lk_X7_159 rfl (isO_MO _ _ _) rfl (ltS (by assumption)) ?_
  refine wa_aload_n dX7_append_42 rfl ?_
  refine wa_iload dX7_append_43 rfl ?_
  refine c_VV dX7_append_45 (mm_appendFour (S := (f_app4 c (f_app4 b (f_app4 a (th S 0))))) hn (app4_6 (app4_6 (app4_6 (show (th S 0).1 267 6 = nI m from (th_k S 0 (by decide)).trans h6) (by omega)) (by omega)) (by omega)) (by omega) d) lk_X7_159 rfl (isO_MO _ _ _) rfl (ltS (by assumption)) ?_
  refine wa_aload_n dX7_append_48 rfl ?_
  refine wa_iload dX7_append_49 rfl ?_
  refine c_VV dX7_append_51 (mm_appendFour (S := (f_app4 d (f_app4 c (f_app4 b (f_app4 a (th S 0)))))) hn (app4_6 (app4_6 (app4_6 (app4_6 (show (th S 0).1 267 6 = nI m from (th_k S 0 (by decide)).trans h6) (by omega)) (by omega)) (by omega)) (by omega)) (by omega) e) lk_X7_159 rfl (isO_MO _ _ _) rfl (ltS (by assumption)) ?_
  refine wa_aload_n dX7_append_54 rfl ?_
  refine g_MO (by assumption) 6 dX7_append_55 fl_X7_152 (by decide) rfl ?_
  exact wa_ireturn dX7_append_58 ⟨Nat.le_refl _, Nat.le_refl _, ⟨_, rfl, rfl⟩, (ri (app4_6 (app4_6 (app4_6 (app4_6 (app4_6 (show (th S 0).1 267 6 = nI m from (th_k S 0 (by decide)).trans h6) (by omega)) (by omega)) (by omega)) (by omega)) (by omega))), rfl, rfl⟩
theorem mm_truncate_1 {n : Nat} {S : SS} (hn : 279 ≤ n) (x : Int32) (h1 : ¬ inr x 0 (S.1 267 6)) : AM yX7_truncate cX7_truncate 2 none [] 2 0 0 [.ref 267, .int x] n (Hp S) (PV n (th S 1)) := by
  intro has
  change WA RX7 cX7_truncate 2 [] _ _ 0 0 0 [some (.ref 267), some (.int x)] [] n _
  refine wa_aload_n dX7_truncate_0 rfl ?_
  refine wa_iload_n dX7_truncate_1 rfl ?_
  refine wa_i2l dX7_truncate_2 ?_
  refine wa_lconst (x := 0) dX7_truncate_3 (by decide) ?_
  refine wa_aload_n dX7_truncate_4 rfl ?_
  refine g_MO (by assumption) 6 dX7_truncate_5 fl_X7_152 (by decide) rfl ?_
  refine wa_i2l dX7_truncate_8 ?_
  refine c_SI dX7_truncate_9 (mm_inI (a := x) (b := 0) (c := S.1 267 6) (by decide) rfl) lk_X7_60 rfl ?_
  refine c_VI dX7_truncate_12 (mm_passes1 hn (inr x 0 (S.1 267 6))) lk_X7_155 rfl (isO_MO _ _ _) rfl (ltS (by assumption)) ?_
  rw [b2i_0 h1, if_neg h1]
  refine wa_if_eq 23 dX7_truncate_15 rfl (fun c15 => ?_) (fun c15 => absurd rfl c15)
  exact wa_return dX7_truncate_23 ⟨Nat.le_refl _, Nat.le_refl _, rfl, rfl, rfl, rfl⟩
theorem mm_truncate_0 {n : Nat} {S : SS} (hn : 279 ≤ n) (x : Int32) (h1 : inr x 0 (S.1 267 6)) : AM yX7_truncate cX7_truncate 2 none [] 2 0 0 [.ref 267, .int x] n (Hp S) (PV n (ss (th S 0) 267 6 x)) := by
  intro has
  change WA RX7 cX7_truncate 2 [] _ _ 0 0 0 [some (.ref 267), some (.int x)] [] n _
  refine wa_aload_n dX7_truncate_0 rfl ?_
  refine wa_iload_n dX7_truncate_1 rfl ?_
  refine wa_i2l dX7_truncate_2 ?_
  refine wa_lconst (x := 0) dX7_truncate_3 (by decide) ?_
  refine wa_aload_n dX7_truncate_4 rfl ?_
  refine g_MO (by assumption) 6 dX7_truncate_5 fl_X7_152 (by decide) rfl ?_
  refine wa_i2l dX7_truncate_8 ?_
  refine c_SI dX7_truncate_9 (mm_inI (a := x) (b := 0) (c := S.1 267 6) (by decide) rfl) lk_X7_60 rfl ?_
  refine c_VI dX7_truncate_12 (mm_passes1 hn (inr x 0 (S.1 267 6))) lk_X7_155 rfl (isO_MO _ _ _) rfl (ltS (by assumption)) ?_
  rw [b2i_1 h1, if_pos h1]
  refine wa_if_eq 23 dX7_truncate_15 rfl (fun c15 => absurd c15 (by decide)) (fun c15 => ?_)
  refine wa_aload_n dX7_truncate_18 rfl ?_
  refine wa_iload_n dX7_truncate_19 rfl ?_
  refine p_MO (by assumption) 6 dX7_truncate_20 fl_X7_152 (by decide) rfl rfl rfl rfl (fun _ _ _ => rfl) (Nat.le_of_ble_eq_true rfl) ?_
  exact wa_return dX7_truncate_23 ⟨Nat.le_refl _, Nat.le_refl _, rfl, rfl, rfl, rfl⟩
theorem mm_outputByte_1 {n : Nat} {S : SS} (hn : 279 ≤ n) (x : Int32) (h1 : ¬ inr x 0 (S.1 267 20 - 1)) : AM yX7_outputByte cX7_outputByte 2 (some .int) [] 2 0 0 [.ref 267, .int x] n (Hp S) (PI 0 n (th S 1)) := by
  intro has
  change WA RX7 cX7_outputByte 2 [] _ _ 0 0 0 [some (.ref 267), some (.int x)] [] n _
  refine wa_aload_n dX7_outputByte_0 rfl ?_
  refine wa_iload_n dX7_outputByte_1 rfl ?_
  refine wa_i2l dX7_outputByte_2 ?_
  refine wa_lconst (x := 0) dX7_outputByte_3 (by decide) ?_
  refine wa_aload_n dX7_outputByte_4 rfl ?_
  refine g_MO (by assumption) 20 dX7_outputByte_5 fl_X7_424 (by decide) rfl ?_
  refine wa_iconst (x := 1) dX7_outputByte_8 (by decide) ?_
  refine wa_isub dX7_outputByte_9 ?_
  refine wa_i2l dX7_outputByte_10 ?_
  refine c_SI dX7_outputByte_11 (mm_inI (a := x) (b := 0) (c := S.1 267 20 - 1) (by decide) rfl) lk_X7_60 rfl ?_
  refine c_VI dX7_outputByte_14 (mm_passes1 hn (inr x 0 (S.1 267 20 - 1))) lk_X7_155 rfl (isO_MO _ _ _) rfl (ltS (by assumption)) ?_
  rw [b2i_0 h1, if_neg h1]
  refine wa_if_eq 29 dX7_outputByte_17 rfl (fun c17 => ?_) (fun c17 => absurd rfl c17)
  refine wa_iconst (x := 0) dX7_outputByte_29 (by decide) ?_
  exact wa_ireturn dX7_outputByte_30 ⟨Nat.le_refl _, Nat.le_refl _, ⟨_, rfl, rfl⟩, rfl, rfl, rfl⟩
theorem mm_outputByte_0 {n j : Nat} {S : SS} (hn : 279 ≤ n) (hj : j < 500) (h1 : inr (nI j) 0 (S.1 267 20 - 1)) : AM yX7_outputByte cX7_outputByte 2 (some .int) [] 2 0 0 [.ref 267, .int (nI j)] n (Hp S) (PI (S.1 276 j) n (th S 0)) := by
  intro has
  change WA RX7 cX7_outputByte 2 [] _ _ 0 0 0 [some (.ref 267), some (.int (nI j))] [] n _
  refine wa_aload_n dX7_outputByte_0 rfl ?_
  refine wa_iload_n dX7_outputByte_1 rfl ?_
  refine wa_i2l dX7_outputByte_2 ?_
  refine wa_lconst (x := 0) dX7_outputByte_3 (by decide) ?_
  refine wa_aload_n dX7_outputByte_4 rfl ?_
  refine g_MO (by assumption) 20 dX7_outputByte_5 fl_X7_424 (by decide) rfl ?_
  refine wa_iconst (x := 1) dX7_outputByte_8 (by decide) ?_
  refine wa_isub dX7_outputByte_9 ?_
  refine wa_i2l dX7_outputByte_10 ?_
  refine c_SI dX7_outputByte_11 (mm_inI (a := nI j) (b := 0) (c := S.1 267 20 - 1) (by decide) rfl) lk_X7_60 rfl ?_
  refine c_VI dX7_outputByte_14 (mm_passes1 hn (inr (nI j) 0 (S.1 267 20 - 1))) lk_X7_155 rfl (isO_MO _ _ _) rfl (ltS (by assumption)) ?_
  rw [b2i_1 h1, if_pos h1]
  refine wa_if_eq 29 dX7_outputByte_17 rfl (fun c17 => absurd c17 (by decide)) (fun c17 => ?_)
  refine wa_aload_n dX7_outputByte_20 rfl ?_
  refine g_MO (by assumption) 19 dX7_outputByte_21 fl_X7_50 (by decide) rfl ?_
  refine wa_iload_n dX7_outputByte_24 rfl ?_
  refine s_bald (j := j) isA_output dX7_outputByte_25 (ltS (by assumption)) (ix_nI (by omega)) hj ?_
  refine wa_goto 30 dX7_outputByte_26 rfl ?_
  exact wa_ireturn dX7_outputByte_30 ⟨Nat.le_refl _, Nat.le_refl _, ⟨_, rfl, rfl⟩, rfl, rfl, rfl⟩
