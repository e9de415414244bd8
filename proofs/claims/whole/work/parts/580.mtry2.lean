/-! ValveRoomModel: what would be, more. Written by program (wip/whole/gen/m580.py) but for the heads. -/
theorem p3_f1 {P : Prop} [Decidable P] {x : Int32} (h : ¬ P) : p3 (b2i P) x 1 = 1 := by
  rw [b2i_0 h]; rfl
theorem p3_f2 {P : Prop} [Decidable P] (h : P) : p3 (b2i P) 0 1 = 2 := by
  rw [b2i_1 h]; rfl
theorem p3_f0 {P : Prop} [Decidable P] (h : P) : p3 (b2i P) 1 1 = 0 := by
  rw [b2i_1 h]; rfl
theorem upd_hdr {T : Int} {g : Nat → Int32} {j : Nat} (x : Int32) (h : VG T g) (h0 : ¬ j = 0) (h1 : ¬ j = 1) (h3 : ¬ j = 3) (h11 : j < 11) : VG T (upd g j x) := by
  have e (a : Nat) (ha : ¬ a = j) : upd g j x a = g a := if_neg ha
  have e0 : upd g j x 0 = g 0 := e 0 (fun z => h0 z.symm)
  have e1 : upd g j x 1 = g 1 := e 1 (fun z => h1 z.symm)
  have e3 : upd g j x 3 = g 3 := e 3 (fun z => h3 z.symm)
  have ep : pn (upd g j x) = pn g := congrArg (fun x : Int32 => x.toInt.toNat) e3
  refine ⟨by rw [e1]; exact h.1, by rw [e0]; exact h.2.1, by rw [e3]; exact h.2.2.1, fun k hk => ?_, fun i => ?_⟩
  · rw [ep] at hk
    rw [e _ (by omega)]
    exact h.2.2.2.1 k hk
  · have : pg (upd g j x) i = pg g i := by
      funext t
      unfold pg of
      split
      · exact e _ (by omega)
      · rfl
    rw [this]
    exact h.2.2.2.2 i
theorem mm_tempIf_1 {n : Nat} {S : SS} {T : Int} (hn : 279 ≤ n) (hm : mr S = 268) (hV : VG T (S.1 268)) (hT : T < 2147400000) (r o many : Int32) (h1 : ¬ rk S r) : AM yX7_tempIf cX7_tempIf 4 (some .int) [] 10 0 0 [.ref 267, .int r, .int o, .int many] n (Hp S) (PI 0 n (th S 1)) := by
  intro has
  change WA RX7 cX7_tempIf 4 [] _ _ 0 0 0 [some (.ref 267), some (.int r), some (.int o), some (.int many)] [] n _
  have hVr : VG T (row S) := by rw [row_net hm]; exact hV
  refine wa_aload_n dX7_tempIf_0 rfl ?_
  refine wa_aload_n dX7_tempIf_1 rfl ?_
  refine wa_iload_n dX7_tempIf_2 rfl ?_
  refine c_VI dX7_tempIf_3 (mm_isRoom (by assumption) hVr r) lk_X7_347 rfl (isO_MO _ _ _) rfl (ltS (by assumption)) ?_
  refine wa_iload_n dX7_tempIf_6 rfl ?_
  refine c_SI dX7_tempIf_7 (mm_isOutside _) lk_X7_395 rfl ?_
  refine wa_if_eq 24 dX7_tempIf_10 rfl (fun c10 => ?_) (fun c10 => ?_)
  · refine wa_iconst (x := 0) dX7_tempIf_24 (by decide) ?_
    refine c_VI dX7_tempIf_25 (mm_passes2 (by assumption) _ _) lk_X7_352 rfl (isO_MO _ _ _) rfl (ltS (by assumption)) ?_
    rw [p3_f1 h1, b2i_0 (by decide)]
    refine wa_if_ne 33 dX7_tempIf_28 rfl (fun c28 => absurd rfl c28) (fun c28 => ?_)
    refine wa_iconst (x := 0) dX7_tempIf_31 (by decide) ?_
    exact wa_ireturn dX7_tempIf_32 ⟨Nat.le_refl _, Nat.le_refl _, ⟨_, rfl, rfl⟩, rfl, rfl, rfl⟩
  · refine wa_iload_n dX7_tempIf_13 rfl ?_
    refine c_SI dX7_tempIf_14 (mm_areTicks _) lk_X7_370 rfl ?_
    refine wa_if_eq 24 dX7_tempIf_17 rfl (fun c17 => ?_) (fun c17 => ?_)
    · refine wa_iconst (x := 0) dX7_tempIf_24 (by decide) ?_
      refine c_VI dX7_tempIf_25 (mm_passes2 (by assumption) _ _) lk_X7_352 rfl (isO_MO _ _ _) rfl (ltS (by assumption)) ?_
      rw [p3_f1 h1, b2i_0 (by decide)]
      refine wa_if_ne 33 dX7_tempIf_28 rfl (fun c28 => absurd rfl c28) (fun c28 => ?_)
      refine wa_iconst (x := 0) dX7_tempIf_31 (by decide) ?_
      exact wa_ireturn dX7_tempIf_32 ⟨Nat.le_refl _, Nat.le_refl _, ⟨_, rfl, rfl⟩, rfl, rfl, rfl⟩
    · refine wa_iconst (x := 1) dX7_tempIf_20 (by decide) ?_
      refine wa_goto 25 dX7_tempIf_21 rfl ?_
      refine c_VI dX7_tempIf_25 (mm_passes2 (by assumption) _ _) lk_X7_352 rfl (isO_MO _ _ _) rfl (ltS (by assumption)) ?_
      rw [p3_f1 h1, b2i_0 (by decide)]
      refine wa_if_ne 33 dX7_tempIf_28 rfl (fun c28 => absurd rfl c28) (fun c28 => ?_)
      refine wa_iconst (x := 0) dX7_tempIf_31 (by decide) ?_
      exact wa_ireturn dX7_tempIf_32 ⟨Nat.le_refl _, Nat.le_refl _, ⟨_, rfl, rfl⟩, rfl, rfl, rfl⟩
theorem mm_tempIf_2 {n : Nat} {S : SS} {T : Int} (hn : 279 ≤ n) (hm : mr S = 268) (hV : VG T (S.1 268)) (hT : T < 2147400000) (r o many : Int32) (h1 : rk S r) (h2 : ¬ (inr o (-300) 400 ∧ inr many 0 500)) : AM yX7_tempIf cX7_tempIf 4 (some .int) [] 10 0 0 [.ref 267, .int r, .int o, .int many] n (Hp S) (PI 0 n (th S 2)) := by
  intro has
  change WA RX7 cX7_tempIf 4 [] _ _ 0 0 0 [some (.ref 267), some (.int r), some (.int o), some (.int many)] [] n _
  have hVr : VG T (row S) := by rw [row_net hm]; exact hV
  refine wa_aload_n dX7_tempIf_0 rfl ?_
  refine wa_aload_n dX7_tempIf_1 rfl ?_
  refine wa_iload_n dX7_tempIf_2 rfl ?_
  refine c_VI dX7_tempIf_3 (mm_isRoom (by assumption) hVr r) lk_X7_347 rfl (isO_MO _ _ _) rfl (ltS (by assumption)) ?_
  refine wa_iload_n dX7_tempIf_6 rfl ?_
  refine c_SI dX7_tempIf_7 (mm_isOutside _) lk_X7_395 rfl ?_
  refine wa_if_eq 24 dX7_tempIf_10 rfl (fun c10 => ?_) (fun c10 => ?_)
  · refine wa_iconst (x := 0) dX7_tempIf_24 (by decide) ?_
    refine c_VI dX7_tempIf_25 (mm_passes2 (by assumption) _ _) lk_X7_352 rfl (isO_MO _ _ _) rfl (ltS (by assumption)) ?_
    rw [p3_f2 h1, b2i_0 (by decide)]
    refine wa_if_ne 33 dX7_tempIf_28 rfl (fun c28 => absurd rfl c28) (fun c28 => ?_)
    refine wa_iconst (x := 0) dX7_tempIf_31 (by decide) ?_
    exact wa_ireturn dX7_tempIf_32 ⟨Nat.le_refl _, Nat.le_refl _, ⟨_, rfl, rfl⟩, rfl, rfl, rfl⟩
  · refine wa_iload_n dX7_tempIf_13 rfl ?_
    refine c_SI dX7_tempIf_14 (mm_areTicks _) lk_X7_370 rfl ?_
    refine wa_if_eq 24 dX7_tempIf_17 rfl (fun c17 => ?_) (fun c17 => ?_)
    · refine wa_iconst (x := 0) dX7_tempIf_24 (by decide) ?_
      refine c_VI dX7_tempIf_25 (mm_passes2 (by assumption) _ _) lk_X7_352 rfl (isO_MO _ _ _) rfl (ltS (by assumption)) ?_
      rw [p3_f2 h1, b2i_0 (by decide)]
      refine wa_if_ne 33 dX7_tempIf_28 rfl (fun c28 => absurd rfl c28) (fun c28 => ?_)
      refine wa_iconst (x := 0) dX7_tempIf_31 (by decide) ?_
      exact wa_ireturn dX7_tempIf_32 ⟨Nat.le_refl _, Nat.le_refl _, ⟨_, rfl, rfl⟩, rfl, rfl, rfl⟩
    · exact absurd ⟨b2i_t c10, b2i_t c17⟩ h2
theorem mm_tempIf_0 {n : Nat} {S : SS} {T : Int} (hn : 279 ≤ n) (hm : mr S = 268) (hV : VG T (S.1 268)) (hT : T < 2147400000) {i : Nat} (hi : i < 6) {N : Nat} (hN : N ≤ 500) (o : Int32) (h1 : rk S (nI i)) (h2 : inr o (-300) 400) (h3 : inr (nI N) 0 500) : AM yX7_tempIf cX7_tempIf 4 (some .int) [] 10 0 0 [.ref 267, .int (nI i), .int o, .int (nI N)] n (Hp S) (PI (of (ticksN (upd (S.1 268) 2 o) N) i 0) n (f_aside (th S 0))) := by
  intro has
  change WA RX7 cX7_tempIf 4 [] _ _ 0 0 0 [some (.ref 267), some (.int (nI i)), some (.int o), some (.int (nI N))] [] n _
  have hVr : VG T (row S) := by rw [row_net hm]; exact hV
  have hV1 : VG T (row (th S 0)) := VG_th hVr 0
  have e2 : row (f_aside (th S 0)) = S.1 268 := (row_aside (S := th S 0) hm).trans (th_n S 0 (by decide))
  have hV2 : VG T (row (f_aside (th S 0))) := by rw [e2]; exact hV
  have e3 : row (su (f_aside (th S 0)) 268 (upd (S.1 268) 2 o)) = upd (S.1 268) 2 o := by
    show (su (f_aside (th S 0)) 268 (upd (S.1 268) 2 o)).1 (mr S) = _
    rw [hm, su_s]
  have hV3 : VG T (row (su (f_aside (th S 0)) 268 (upd (S.1 268) 2 o))) := by rw [e3]; exact upd_hdr o hV (by decide) (by decide) (by decide) (by decide)
  have e4 : (f_aside (th S 0)).1 268 = S.1 268 := by rw [← e2]; exact (congrArg (f_aside (th S 0)).1 hm).symm
  refine wa_aload_n dX7_tempIf_0 rfl ?_
  refine wa_aload_n dX7_tempIf_1 rfl ?_
  refine wa_iload_n dX7_tempIf_2 rfl ?_
  refine c_VI dX7_tempIf_3 (mm_isRoom (by assumption) hVr (nI i)) lk_X7_347 rfl (isO_MO _ _ _) rfl (ltS (by assumption)) ?_
  refine wa_iload_n dX7_tempIf_6 rfl ?_
  refine c_SI dX7_tempIf_7 (mm_isOutside _) lk_X7_395 rfl ?_
  rw [b2i_1 h2]
  refine wa_if_eq 24 dX7_tempIf_10 rfl (fun c10 => absurd c10 (by decide)) (fun c10 => ?_)
  refine wa_iload_n dX7_tempIf_13 rfl ?_
  refine c_SI dX7_tempIf_14 (mm_areTicks _) lk_X7_370 rfl ?_
  rw [b2i_1 h3]
  refine wa_if_eq 24 dX7_tempIf_17 rfl (fun c17 => absurd c17 (by decide)) (fun c17 => ?_)
  refine wa_iconst (x := 1) dX7_tempIf_20 (by decide) ?_
  refine wa_goto 25 dX7_tempIf_21 rfl ?_
  refine c_VI dX7_tempIf_25 (mm_passes2 (by assumption) _ _) lk_X7_352 rfl (isO_MO _ _ _) rfl (ltS (by assumption)) ?_
  rw [p3_f0 h1, b2i_1 rfl]
  refine wa_if_ne 33 dX7_tempIf_28 rfl (fun c28 => ?_) (fun c28 => absurd c28 (by decide))
  refine wa_aload_n dX7_tempIf_33 rfl ?_
  refine c_VV dX7_tempIf_34 (mm_keepAside (by assumption)) lk_X7_373 rfl (isO_MO _ _ _) rfl (ltS (by assumption)) ?_
  refine wa_aload_n dX7_tempIf_37 rfl ?_
  refine g_MO (by assumption) 1 dX7_tempIf_38 fl_X7_17 (by decide) rfl ?_
  refine wa_iconst (x := 2) dX7_tempIf_41 (by decide) ?_
  refine wa_iload_n dX7_tempIf_42 rfl ?_
  refine s_iast (j := 2) isA_net dX7_tempIf_43 (ltS (by assumption)) rfl (by decide) ?_
  show WA _ _ _ _ _ _ _ _ _ _ _ _ (Hp (su (f_aside (th S 0)) 268 (upd ((f_aside (th S 0)).1 268) 2 o)))
  rw [e4]
  refine wa_aload_n dX7_tempIf_44 rfl ?_
  refine wa_aload_n dX7_tempIf_45 rfl ?_
  refine wa_iload_n dX7_tempIf_46 rfl ?_
  refine wa_iconst (x := 0) dX7_tempIf_47 (by decide) ?_
  refine wa_iload_n dX7_tempIf_48 rfl ?_
  refine c_VI dX7_tempIf_49 (mm_later (w := 0) hn (by omega) hi (by decide) hV3 (by omega)) lk_X7_376 rfl (isO_MO _ _ _) rfl (ltS (by assumption)) ?_
  refine c_VI dX7_tempIf_52 (mm_layBackS (by assumption) _ (TB_md (TB_su (TB_0 (th S 0)) _) hm _)) lk_X7_379 rfl (isO_MO _ _ _) rfl (ltS (by assumption)) ?_
  exact wa_ireturn dX7_tempIf_55 ⟨Nat.le_refl _, Nat.le_refl _, ⟨_, rfl, rfl⟩, (ri (by rw [e3])), rfl, rfl⟩
theorem mm_coldBy_1 {n : Nat} {S : SS} {T : Int} (hn : 279 ≤ n) (hm : mr S = 268) (hV : VG T (S.1 268)) (hT : T < 2147400000) (r many : Int32) (h1 : ¬ (rk S r)) : AM yX7_coldBy cX7_coldBy 4 (some .int) [] 10 0 0 [.ref 267, .int r, .int many] n (Hp S) (PI 0 n (th S 1)) := by
  intro has
  change WA RX7 cX7_coldBy 4 [] _ _ 0 0 0 [some (.ref 267), some (.int r), some (.int many), none] [] n _
  have hVr : VG T (row S) := by rw [row_net hm]; exact hV
  refine wa_aload_n dX7_coldBy_0 rfl ?_
  refine wa_aload_n dX7_coldBy_1 rfl ?_
  refine wa_iload_n dX7_coldBy_2 rfl ?_
  refine c_VI dX7_coldBy_3 (mm_isRoom (by assumption) hVr r) lk_X7_347 rfl (isO_MO _ _ _) rfl (ltS (by assumption)) ?_
  refine wa_iload_n dX7_coldBy_6 rfl ?_
  refine c_SI dX7_coldBy_7 (mm_areTicks _) lk_X7_370 rfl ?_
  refine c_VI dX7_coldBy_10 (mm_passesP (by assumption) (rk S r) (inr many 0 500)) lk_X7_352 rfl (isO_MO _ _ _) rfl (ltS (by assumption)) ?_
  rw [b2i_0 (fun z => h1 z.1), if_neg h1]
  refine wa_if_ne 18 dX7_coldBy_13 rfl (fun c13 => absurd rfl c13) (fun c13 => ?_)
  refine wa_iconst (x := 0) dX7_coldBy_16 (by decide) ?_
  exact wa_ireturn dX7_coldBy_17 ⟨Nat.le_refl _, Nat.le_refl _, ⟨_, rfl, rfl⟩, rfl, rfl, rfl⟩
theorem mm_coldBy_2 {n : Nat} {S : SS} {T : Int} (hn : 279 ≤ n) (hm : mr S = 268) (hV : VG T (S.1 268)) (hT : T < 2147400000) (r many : Int32) (h1 : rk S r) (h2 : ¬ (inr many 0 500)) : AM yX7_coldBy cX7_coldBy 4 (some .int) [] 10 0 0 [.ref 267, .int r, .int many] n (Hp S) (PI 0 n (th S 2)) := by
  intro has
  change WA RX7 cX7_coldBy 4 [] _ _ 0 0 0 [some (.ref 267), some (.int r), some (.int many), none] [] n _
  have hVr : VG T (row S) := by rw [row_net hm]; exact hV
  refine wa_aload_n dX7_coldBy_0 rfl ?_
  refine wa_aload_n dX7_coldBy_1 rfl ?_
  refine wa_iload_n dX7_coldBy_2 rfl ?_
  refine c_VI dX7_coldBy_3 (mm_isRoom (by assumption) hVr r) lk_X7_347 rfl (isO_MO _ _ _) rfl (ltS (by assumption)) ?_
  refine wa_iload_n dX7_coldBy_6 rfl ?_
  refine c_SI dX7_coldBy_7 (mm_areTicks _) lk_X7_370 rfl ?_
  refine c_VI dX7_coldBy_10 (mm_passesP (by assumption) (rk S r) (inr many 0 500)) lk_X7_352 rfl (isO_MO _ _ _) rfl (ltS (by assumption)) ?_
  rw [b2i_0 (fun z => h2 z.2), if_pos h1, if_neg h2]
  refine wa_if_ne 18 dX7_coldBy_13 rfl (fun c13 => absurd rfl c13) (fun c13 => ?_)
  refine wa_iconst (x := 0) dX7_coldBy_16 (by decide) ?_
  exact wa_ireturn dX7_coldBy_17 ⟨Nat.le_refl _, Nat.le_refl _, ⟨_, rfl, rfl⟩, rfl, rfl, rfl⟩
theorem mm_coldBy_0 {n : Nat} {S : SS} {T : Int} (hn : 279 ≤ n) (hm : mr S = 268) (hV : VG T (S.1 268)) (hT : T < 2147400000) {i : Nat} (hi : i < 6) {N : Nat} (hN : N ≤ 500) (h1 : rk S (nI i)) (h2 : inr (nI N) 0 500) : AM yX7_coldBy cX7_coldBy 4 (some .int) [] 10 0 0 [.ref 267, .int (nI i), .int (nI N)] n (Hp S) (PI (i_max 0 (of (ticksN (S.1 268) N) i 0 - of (ticksN (pt (S.1 268) i 5 1) N) i 0)) n (f_aside (th S 0))) := by
  intro has
  change WA RX7 cX7_coldBy 4 [] _ _ 0 0 0 [some (.ref 267), some (.int (nI i)), some (.int (nI N)), none] [] n _
  have hVr : VG T (row S) := by rw [row_net hm]; exact hV
  have hV1 : VG T (row (th S 0)) := VG_th hVr 0
  have e2 : row (f_aside (th S 0)) = S.1 268 := (row_aside (S := th S 0) hm).trans (th_n S 0 (by decide))
  have hV2 : VG T (row (f_aside (th S 0))) := by rw [e2]; exact hV
  have e5 : row (md (fun g => pt g i 5 1) (f_aside (th S 0))) = pt (S.1 268) i 5 1 := by rw [md_row, e2]
  have hV5 : VG T (row (md (fun g => pt g i 5 1) (f_aside (th S 0)))) := by rw [e5]; exact VG_kp hV (kp_pt _ i _ (by decide))
  refine wa_aload_n dX7_coldBy_0 rfl ?_
  refine wa_aload_n dX7_coldBy_1 rfl ?_
  refine wa_iload_n dX7_coldBy_2 rfl ?_
  refine c_VI dX7_coldBy_3 (mm_isRoom (by assumption) hVr (nI i)) lk_X7_347 rfl (isO_MO _ _ _) rfl (ltS (by assumption)) ?_
  refine wa_iload_n dX7_coldBy_6 rfl ?_
  refine c_SI dX7_coldBy_7 (mm_areTicks _) lk_X7_370 rfl ?_
  refine c_VI dX7_coldBy_10 (mm_passesP (by assumption) (rk S (nI i)) (inr (nI N) 0 500)) lk_X7_352 rfl (isO_MO _ _ _) rfl (ltS (by assumption)) ?_
  rw [b2i_1 ⟨h1, h2⟩, if_pos h1, if_pos h2]
  refine wa_if_ne 18 dX7_coldBy_13 rfl (fun c13 => ?_) (fun c13 => absurd c13 (by decide))
  refine wa_aload_n dX7_coldBy_18 rfl ?_
  refine c_VV dX7_coldBy_19 (mm_keepAside (by assumption)) lk_X7_373 rfl (isO_MO _ _ _) rfl (ltS (by assumption)) ?_
  refine wa_aload_n dX7_coldBy_22 rfl ?_
  refine wa_aload_n dX7_coldBy_23 rfl ?_
  refine wa_iload_n dX7_coldBy_24 rfl ?_
  refine wa_iconst (x := 0) dX7_coldBy_25 (by decide) ?_
  refine wa_iload_n dX7_coldBy_26 rfl ?_
  refine c_VI dX7_coldBy_27 (mm_later (w := 0) hn (by omega) hi (by decide) hV2 (by omega)) lk_X7_376 rfl (isO_MO _ _ _) rfl (ltS (by assumption)) ?_
  refine c_VI dX7_coldBy_30 (mm_layBackS (by assumption) _ (TB_md (TB_0 (th S 0)) hm _)) lk_X7_379 rfl (isO_MO _ _ _) rfl (ltS (by assumption)) ?_
  refine wa_istore_n dX7_coldBy_33 rfl ?_
  refine wa_aload_n dX7_coldBy_34 rfl ?_
  refine wa_iload_n dX7_coldBy_35 rfl ?_
  refine wa_iconst (x := 5) dX7_coldBy_36 (by decide) ?_
  refine wa_iconst (x := 1) dX7_coldBy_37 (by decide) ?_
  refine c_VV dX7_coldBy_38 (mm_put2 (w := 5) (by assumption) hi (by decide) 1) lk_X7_105 rfl (isO_MO _ _ _) rfl (ltS (by assumption)) ?_
  refine wa_iconst (x := 0) dX7_coldBy_41 (by decide) ?_
  refine wa_iload_n dX7_coldBy_42 rfl ?_
  refine wa_aload_n dX7_coldBy_43 rfl ?_
  refine wa_aload_n dX7_coldBy_44 rfl ?_
  refine wa_iload_n dX7_coldBy_45 rfl ?_
  refine wa_iconst (x := 0) dX7_coldBy_46 (by decide) ?_
  refine wa_iload_n dX7_coldBy_47 rfl ?_
  refine c_VI dX7_coldBy_48 (mm_later (w := 0) hn (by omega) hi (by decide) hV5 (by omega)) lk_X7_376 rfl (isO_MO _ _ _) rfl (ltS (by assumption)) ?_
  refine c_VI dX7_coldBy_51 (mm_layBackS (by assumption) _ (TB_md (TB_md (TB_0 (th S 0)) hm _) hm _)) lk_X7_379 rfl (isO_MO _ _ _) rfl (ltS (by assumption)) ?_
  refine wa_isub dX7_coldBy_54 ?_
  refine c_SI dX7_coldBy_55 (am_max _ _) lk_X7_150 rfl ?_
  exact wa_ireturn dX7_coldBy_58 ⟨Nat.le_refl _, Nat.le_refl _, ⟨_, rfl, rfl⟩, (ri (by rw [e2, e5])), rfl, rfl⟩
/-- the first tick, of the r from k on, at which p holds; -1 if none -/
def fst (p : Nat → Prop) [DecidablePred p] : Nat → Nat → Int32
  | 0, _ => -1
  | r + 1, k => if p k then nI k else fst p r (k + 1)
theorem lp_warmIn {Q : ab_Q} {n i : Nat} {S : SS} {T : Int} {v : Int32} (S0 : SS) (g : Nat → Int32) (hn : 279 ≤ n) (hi : i < 6) (hm : mr S = 268) (hB : ∀ f, TB S0 (md (fun _ => f) S)) (hV : VG T g) (hT : T < 2147400000) (hQ : Q (.inl (some (.int v))) 0 0 n (Hp S0)) :
    ∀ (r k : Nat), k + r = 501 → fst (fun k => tgt (ticksN g k) i ≤ of (ticksN g k) i 0) r k = v → WA RX7 cX7_warmIn 3 [] (ab_rm 9 0 0) Q 0 0 20 [some (.ref 267), some (.int (nI i)), some (.int (nI k))] [] n (Hp (md (fun _ => ticksN g k) S)) := by
  intro r
  induction r with
  | zero =>
    intro k hk
    have hk' : 501 = k := by omega
    
    intro hv
    have hk2 : k = 501 := by omega
    subst hk2
    refine wa_iload_n dX7_warmIn_20 rfl ?_
    refine wa_sipush (x := 500) dX7_warmIn_21 (by decide) ?_
    refine wa_icmp_gt 57 dX7_warmIn_24 rfl (fun c24 => ?_) (fun c24 => absurd (nI_ge (a := 500) (b := 501) (by omega) (by omega)) (fun z => c24 (Int32.lt_iff_le_and_ne.mpr ⟨(nI_le (a := 500) (b := 501) (by omega) (by omega)), by decide⟩)))
    refine wa_aload_n dX7_warmIn_57 rfl ?_
    refine wa_iconst (x := (-1)) dX7_warmIn_58 (by decide) ?_
    refine c_VI dX7_warmIn_59 (mm_layBackS hn _ (hB _)) lk_X7_379 rfl (isO_MO _ _ _) rfl (ltS (by assumption)) ?_
    rw [show (-1 : Int32) = v from hv]
    exact wa_ireturn dX7_warmIn_62 hQ
  | succ r ih =>
    intro k hk
    intro hv
    have eV : VG (T + k) (row (md (fun _ => ticksN g k) S)) := by rw [md_row]; exact VG_ticks hV k (by omega)
    refine wa_iload_n dX7_warmIn_20 rfl ?_
    refine wa_sipush (x := 500) dX7_warmIn_21 (by decide) ?_
    refine wa_icmp_gt 57 dX7_warmIn_24 rfl (fun c24 => absurd (nI_le (a := k) (b := 500) (by omega) (by omega)) (Int32.not_le.mpr c24)) (fun c24 => ?_)
    refine wa_aload_n dX7_warmIn_27 rfl ?_
    refine wa_iload_n dX7_warmIn_28 rfl ?_
    refine wa_iconst (x := 0) dX7_warmIn_29 (by decide) ?_
    refine c_VI dX7_warmIn_30 (mm_of2 (w := 0) (by assumption) hi (by decide)) lk_X7_68 rfl (isO_MO _ _ _) rfl (ltS (by assumption)) ?_
    rw [md_row]
    refine wa_aload_n dX7_warmIn_33 rfl ?_
    refine wa_iload_n dX7_warmIn_34 rfl ?_
    refine c_VI dX7_warmIn_35 (mt_targetOf (by assumption) hi eV) lk_X7_78 rfl (isO_MO _ _ _) rfl (ltS (by assumption)) ?_
    rw [md_row]
    refine wa_icmp_lt 47 dX7_warmIn_38 rfl (fun c38 => ?_) (fun c38 => ?_)
    · refine wa_aload_n dX7_warmIn_47 rfl ?_
      refine c_VV dX7_warmIn_48 (mm_tickOnce (by assumption) eV (by omega)) lk_X7_144 rfl (isO_MO _ _ _) rfl (ltS (by assumption)) ?_
      rw [md_c]
      refine wa_iinc (y := 1) dX7_warmIn_51 rfl (by decide) rfl ?_
      refine wa_goto 20 dX7_warmIn_54 rfl ?_
      rw [nI_1 k]
      exact ih (k + 1) (by omega) ((if_neg (Int32.not_le.mpr c38)).symm.trans hv)
    · refine wa_aload_n dX7_warmIn_41 rfl ?_
      refine wa_iload_n dX7_warmIn_42 rfl ?_
      refine c_VI dX7_warmIn_43 (mm_layBackS hn _ (hB _)) lk_X7_379 rfl (isO_MO _ _ _) rfl (ltS (by assumption)) ?_
      rw [show nI k = v from (if_pos (Int32.not_lt.mp c38)).symm.trans hv]
      exact wa_ireturn dX7_warmIn_46 hQ
theorem lp_emptyIn {Q : ab_Q} {n i : Nat} {S : SS} {T : Int} {v : Int32} (S0 : SS) (g : Nat → Int32) (hn : 279 ≤ n) (hi : i < 6) (hm : mr S = 268) (hB : ∀ f, TB S0 (md (fun _ => f) S)) (hV : VG T g) (hT : T < 2147400000) (hQ : Q (.inl (some (.int v))) 0 0 n (Hp S0)) :
    ∀ (r k : Nat), k + r = 501 → fst (fun k => of (ticksN g k) i 2 = 0) r k = v → WA RX7 cX7_emptyIn 3 [] (ab_rm 9 0 0) Q 0 0 20 [some (.ref 267), some (.int (nI i)), some (.int (nI k))] [] n (Hp (md (fun _ => ticksN g k) S)) := by
  intro r
  induction r with
  | zero =>
    intro k hk
    have hk' : 501 = k := by omega
    
    intro hv
    have hk2 : k = 501 := by omega
    subst hk2
    refine wa_iload_n dX7_emptyIn_20 rfl ?_
    refine wa_sipush (x := 500) dX7_emptyIn_21 (by decide) ?_
    refine wa_icmp_gt 52 dX7_emptyIn_24 rfl (fun c24 => ?_) (fun c24 => absurd (nI_ge (a := 500) (b := 501) (by omega) (by omega)) (fun z => c24 (Int32.lt_iff_le_and_ne.mpr ⟨(nI_le (a := 500) (b := 501) (by omega) (by omega)), by decide⟩)))
    refine wa_aload_n dX7_emptyIn_52 rfl ?_
    refine wa_iconst (x := (-1)) dX7_emptyIn_53 (by decide) ?_
    refine c_VI dX7_emptyIn_54 (mm_layBackS hn _ (hB _)) lk_X7_379 rfl (isO_MO _ _ _) rfl (ltS (by assumption)) ?_
    rw [show (-1 : Int32) = v from hv]
    exact wa_ireturn dX7_emptyIn_57 hQ
  | succ r ih =>
    intro k hk
    intro hv
    have eV : VG (T + k) (row (md (fun _ => ticksN g k) S)) := by rw [md_row]; exact VG_ticks hV k (by omega)
    refine wa_iload_n dX7_emptyIn_20 rfl ?_
    refine wa_sipush (x := 500) dX7_emptyIn_21 (by decide) ?_
    refine wa_icmp_gt 52 dX7_emptyIn_24 rfl (fun c24 => absurd (nI_le (a := k) (b := 500) (by omega) (by omega)) (Int32.not_le.mpr c24)) (fun c24 => ?_)
    refine wa_aload_n dX7_emptyIn_27 rfl ?_
    refine wa_iload_n dX7_emptyIn_28 rfl ?_
    refine wa_iconst (x := 2) dX7_emptyIn_29 (by decide) ?_
    refine c_VI dX7_emptyIn_30 (mm_of2 (w := 2) (by assumption) hi (by decide)) lk_X7_68 rfl (isO_MO _ _ _) rfl (ltS (by assumption)) ?_
    rw [md_row]
    refine wa_if_ne 42 dX7_emptyIn_33 rfl (fun c33 => ?_) (fun c33 => ?_)
    · refine wa_aload_n dX7_emptyIn_42 rfl ?_
      refine c_VV dX7_emptyIn_43 (mm_tickOnce (by assumption) eV (by omega)) lk_X7_144 rfl (isO_MO _ _ _) rfl (ltS (by assumption)) ?_
      rw [md_c]
      refine wa_iinc (y := 1) dX7_emptyIn_46 rfl (by decide) rfl ?_
      refine wa_goto 20 dX7_emptyIn_49 rfl ?_
      rw [nI_1 k]
      exact ih (k + 1) (by omega) ((if_neg (c33)).symm.trans hv)
    · refine wa_aload_n dX7_emptyIn_36 rfl ?_
      refine wa_iload_n dX7_emptyIn_37 rfl ?_
      refine c_VI dX7_emptyIn_38 (mm_layBackS hn _ (hB _)) lk_X7_379 rfl (isO_MO _ _ _) rfl (ltS (by assumption)) ?_
      rw [show nI k = v from (if_pos (c33)).symm.trans hv]
      exact wa_ireturn dX7_emptyIn_41 hQ
theorem mm_warmIn_1 {n : Nat} {S : SS} {T : Int} (hn : 279 ≤ n) (hm : mr S = 268) (hV : VG T (S.1 268)) (hT : T < 2147400000) (r : Int32) (h1 : ¬ (rk S r)) : AM yX7_warmIn cX7_warmIn 3 (some .int) [] 9 0 0 [.ref 267, .int r] n (Hp S) (PI 0 n (th S 1)) := by
  intro has
  change WA RX7 cX7_warmIn 3 [] _ _ 0 0 0 [some (.ref 267), some (.int r), none] [] n _
  have hVr : VG T (row S) := by rw [row_net hm]; exact hV
  refine wa_aload_n dX7_warmIn_0 rfl ?_
  refine wa_aload_n dX7_warmIn_1 rfl ?_
  refine wa_iload_n dX7_warmIn_2 rfl ?_
  refine c_VI dX7_warmIn_3 (mm_isRoom (by assumption) hVr r) lk_X7_347 rfl (isO_MO _ _ _) rfl (ltS (by assumption)) ?_
  refine c_VI dX7_warmIn_6 (mm_passes1 (by assumption) (rk S r)) lk_X7_155 rfl (isO_MO _ _ _) rfl (ltS (by assumption)) ?_
  rw [b2i_0 (fun z => h1 z), if_neg h1]
  refine wa_if_ne 14 dX7_warmIn_9 rfl (fun c9 => absurd rfl c9) (fun c9 => ?_)
  refine wa_iconst (x := 0) dX7_warmIn_12 (by decide) ?_
  exact wa_ireturn dX7_warmIn_13 ⟨Nat.le_refl _, Nat.le_refl _, ⟨_, rfl, rfl⟩, rfl, rfl, rfl⟩
theorem mm_warmIn_0 {n : Nat} {S : SS} {T : Int} (hn : 279 ≤ n) (hm : mr S = 268) (hV : VG T (S.1 268)) (hT : T < 2147400000) {i : Nat} (hi : i < 6) (h1 : rk S (nI i)) : AM yX7_warmIn cX7_warmIn 3 (some .int) [] 9 0 0 [.ref 267, .int (nI i)] n (Hp S) (PI (fst (fun k => tgt (ticksN (S.1 268) k) i ≤ of (ticksN (S.1 268) k) i 0) 501 0) n (f_aside (th S 0))) := by
  intro has
  change WA RX7 cX7_warmIn 3 [] _ _ 0 0 0 [some (.ref 267), some (.int (nI i)), none] [] n _
  have hVr : VG T (row S) := by rw [row_net hm]; exact hV
  have hV1 : VG T (row (th S 0)) := VG_th hVr 0
  have e2 : row (f_aside (th S 0)) = S.1 268 := (row_aside (S := th S 0) hm).trans (th_n S 0 (by decide))
  have hV2 : VG T (row (f_aside (th S 0))) := by rw [e2]; exact hV
  refine wa_aload_n dX7_warmIn_0 rfl ?_
  refine wa_aload_n dX7_warmIn_1 rfl ?_
  refine wa_iload_n dX7_warmIn_2 rfl ?_
  refine c_VI dX7_warmIn_3 (mm_isRoom (by assumption) hVr (nI i)) lk_X7_347 rfl (isO_MO _ _ _) rfl (ltS (by assumption)) ?_
  refine c_VI dX7_warmIn_6 (mm_passes1 (by assumption) (rk S (nI i))) lk_X7_155 rfl (isO_MO _ _ _) rfl (ltS (by assumption)) ?_
  rw [b2i_1 h1, if_pos h1]
  refine wa_if_ne 14 dX7_warmIn_9 rfl (fun c9 => ?_) (fun c9 => absurd c9 (by decide))
  refine wa_aload_n dX7_warmIn_14 rfl ?_
  refine c_VV dX7_warmIn_15 (mm_keepAside (by assumption)) lk_X7_373 rfl (isO_MO _ _ _) rfl (ltS (by assumption)) ?_
  refine wa_iconst (x := 0) dX7_warmIn_18 (by decide) ?_
  refine wa_istore_n dX7_warmIn_19 rfl ?_
  refine wa_cg (S1 := md (fun _ => ticksN (S.1 268) 0) (f_aside (th S 0))) (by rw [← e2]; exact md_self _) ?_
  exact lp_warmIn (S := f_aside (th S 0)) (f_aside (th S 0)) (S.1 268) hn hi hm (fun f => TB_md (TB_0 (th S 0)) hm _) hV hT ⟨Nat.le_refl _, Nat.le_refl _, ⟨_, rfl, rfl⟩, rfl, rfl, rfl⟩ 501 0 (Nat.zero_add _) rfl
theorem mm_emptyIn_1 {n : Nat} {S : SS} {T : Int} (hn : 279 ≤ n) (hm : mr S = 268) (hV : VG T (S.1 268)) (hT : T < 2147400000) (r : Int32) (h1 : ¬ (rk S r)) : AM yX7_emptyIn cX7_emptyIn 3 (some .int) [] 9 0 0 [.ref 267, .int r] n (Hp S) (PI 0 n (th S 1)) := by
  intro has
  change WA RX7 cX7_emptyIn 3 [] _ _ 0 0 0 [some (.ref 267), some (.int r), none] [] n _
  have hVr : VG T (row S) := by rw [row_net hm]; exact hV
  refine wa_aload_n dX7_emptyIn_0 rfl ?_
  refine wa_aload_n dX7_emptyIn_1 rfl ?_
  refine wa_iload_n dX7_emptyIn_2 rfl ?_
  refine c_VI dX7_emptyIn_3 (mm_isRoom (by assumption) hVr r) lk_X7_347 rfl (isO_MO _ _ _) rfl (ltS (by assumption)) ?_
  refine c_VI dX7_emptyIn_6 (mm_passes1 (by assumption) (rk S r)) lk_X7_155 rfl (isO_MO _ _ _) rfl (ltS (by assumption)) ?_
  rw [b2i_0 (fun z => h1 z), if_neg h1]
  refine wa_if_ne 14 dX7_emptyIn_9 rfl (fun c9 => absurd rfl c9) (fun c9 => ?_)
  refine wa_iconst (x := 0) dX7_emptyIn_12 (by decide) ?_
  exact wa_ireturn dX7_emptyIn_13 ⟨Nat.le_refl _, Nat.le_refl _, ⟨_, rfl, rfl⟩, rfl, rfl, rfl⟩
theorem mm_emptyIn_0 {n : Nat} {S : SS} {T : Int} (hn : 279 ≤ n) (hm : mr S = 268) (hV : VG T (S.1 268)) (hT : T < 2147400000) {i : Nat} (hi : i < 6) (h1 : rk S (nI i)) : AM yX7_emptyIn cX7_emptyIn 3 (some .int) [] 9 0 0 [.ref 267, .int (nI i)] n (Hp S) (PI (fst (fun k => of (ticksN (S.1 268) k) i 2 = 0) 501 0) n (f_aside (th S 0))) := by
  intro has
  change WA RX7 cX7_emptyIn 3 [] _ _ 0 0 0 [some (.ref 267), some (.int (nI i)), none] [] n _
  have hVr : VG T (row S) := by rw [row_net hm]; exact hV
  have hV1 : VG T (row (th S 0)) := VG_th hVr 0
  have e2 : row (f_aside (th S 0)) = S.1 268 := (row_aside (S := th S 0) hm).trans (th_n S 0 (by decide))
  have hV2 : VG T (row (f_aside (th S 0))) := by rw [e2]; exact hV
  refine wa_aload_n dX7_emptyIn_0 rfl ?_
  refine wa_aload_n dX7_emptyIn_1 rfl ?_
  refine wa_iload_n dX7_emptyIn_2 rfl ?_
  refine c_VI dX7_emptyIn_3 (mm_isRoom (by assumption) hVr (nI i)) lk_X7_347 rfl (isO_MO _ _ _) rfl (ltS (by assumption)) ?_
  refine c_VI dX7_emptyIn_6 (mm_passes1 (by assumption) (rk S (nI i))) lk_X7_155 rfl (isO_MO _ _ _) rfl (ltS (by assumption)) ?_
  rw [b2i_1 h1, if_pos h1]
  refine wa_if_ne 14 dX7_emptyIn_9 rfl (fun c9 => ?_) (fun c9 => absurd c9 (by decide))
  refine wa_aload_n dX7_emptyIn_14 rfl ?_
  refine c_VV dX7_emptyIn_15 (mm_keepAside (by assumption)) lk_X7_373 rfl (isO_MO _ _ _) rfl (ltS (by assumption)) ?_
  refine wa_iconst (x := 0) dX7_emptyIn_18 (by decide) ?_
  refine wa_istore_n dX7_emptyIn_19 rfl ?_
  refine wa_cg (S1 := md (fun _ => ticksN (S.1 268) 0) (f_aside (th S 0))) (by rw [← e2]; exact md_self _) ?_
  exact lp_emptyIn (S := f_aside (th S 0)) (f_aside (th S 0)) (S.1 268) hn hi hm (fun f => TB_md (TB_0 (th S 0)) hm _) hV hT ⟨Nat.le_refl _, Nat.le_refl _, ⟨_, rfl, rfl⟩, rfl, rfl, rfl⟩ 501 0 (Nat.zero_add _) rfl
