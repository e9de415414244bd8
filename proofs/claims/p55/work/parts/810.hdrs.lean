/-! ValveRoom$Parser: the header's statements. Written by program (wip/whole/gen/m810.py) but for the heads. -/
theorem GH_4 {g : Nat → Int32} {x : Int32} (h : GH g) (hx : 1 ≤ x.toInt ∧ x.toInt ≤ 99) : GH (upd g 4 x) := by
  unfold GH
  rw [upd_e, upd_o (k := 2) (by decide), upd_o (k := 5) (by decide), upd_o (k := 6) (by decide), upd_o (k := 7) (by decide), upd_o (k := 8) (by decide), upd_o (k := 9) (by decide), upd_o (k := 10) (by decide)]
  exact ⟨h.1, hx, h.2.2.1, h.2.2.2.1, h.2.2.2.2.1, h.2.2.2.2.2.1, h.2.2.2.2.2.2.1, h.2.2.2.2.2.2.2⟩
theorem GH_5 {g : Nat → Int32} {x : Int32} (h : GH g) (hx : 1 ≤ x.toInt ∧ x.toInt ≤ 48) : GH (upd g 5 x) := by
  unfold GH
  rw [upd_e, upd_o (k := 2) (by decide), upd_o (k := 4) (by decide), upd_o (k := 6) (by decide), upd_o (k := 7) (by decide), upd_o (k := 8) (by decide), upd_o (k := 9) (by decide), upd_o (k := 10) (by decide)]
  exact ⟨h.1, h.2.1, hx, h.2.2.2.1, h.2.2.2.2.1, h.2.2.2.2.2.1, h.2.2.2.2.2.2.1, h.2.2.2.2.2.2.2⟩
theorem GH_6 {g : Nat → Int32} {x : Int32} (h : GH g) (hx : 0 ≤ x.toInt ∧ x.toInt ≤ 150) : GH (upd g 6 x) := by
  unfold GH
  rw [upd_e, upd_o (k := 2) (by decide), upd_o (k := 4) (by decide), upd_o (k := 5) (by decide), upd_o (k := 7) (by decide), upd_o (k := 8) (by decide), upd_o (k := 9) (by decide), upd_o (k := 10) (by decide)]
  exact ⟨h.1, h.2.1, h.2.2.1, hx, h.2.2.2.2.1, h.2.2.2.2.2.1, h.2.2.2.2.2.2.1, h.2.2.2.2.2.2.2⟩
theorem GH_10 {g : Nat → Int32} {x : Int32} (h : GH g) (hx : 0 ≤ x.toInt ∧ x.toInt ≤ 335) : GH (upd g 10 x) := by
  unfold GH
  rw [upd_e, upd_o (k := 2) (by decide), upd_o (k := 4) (by decide), upd_o (k := 5) (by decide), upd_o (k := 6) (by decide), upd_o (k := 7) (by decide), upd_o (k := 8) (by decide), upd_o (k := 9) (by decide)]
  exact ⟨h.1, h.2.1, h.2.2.1, h.2.2.2.1, h.2.2.2.2.1, h.2.2.2.2.2.1, h.2.2.2.2.2.2.1, hx⟩
/-- nothing lies behind the last room -/
def ZR (g : Nat → Int32) : Prop := ∀ j, 71 + 66 * rn g ≤ j → g j = 0
def PZ (g : Nat → Int32) : Prop := GG 0 g ∧ ZR g
abbrev CS : (Nat → Int32) → Nat → Nat → Nat → SS → Nat → Nat → (Nat → Int32) → (Nat → Nat → Int32) → (Nat → Nat) → Prop := CSg PZ
theorem ZR_upd {g : Nat → Int32} {k : Nat} {x : Int32} (h : ZR g) (h0 : ¬ k = 0) (hk : k < 71) : ZR (upd g k x) := fun j hj => by
  rw [rn_cg (upd_o (fun z => h0 z.symm))] at hj
  rw [upd_o (by omega)]
  exact h j hj
theorem CSg.hdr {b : Nat → Int32} {N c n : Nat} {S : SS} {t told : Nat} {δ : Nat → Int32} {nf : Nat → Nat → Int32} {nl : Nat → Nat} (h : CS b N c n S t told δ nf nl) {j : Nat} (hj : j < 9) (h0 : ¬ j = 0) {x : Int32} (hg : GH (upd δ (hm j) x)) : CS b N c n (ss S 3 j x) t told (upd δ (hm j) x) nf nl := by
  have q : ∀ j, j < 9 → ¬ j = 0 → ¬ hm j = 0 ∧ ¬ hm j = 1 ∧ ¬ hm j = 3 ∧ hm j < 11 := by decide
  obtain ⟨q0, q1, q3, q11⟩ := q j hj h0
  exact h.dr (FRh.rf.ss ⟨by omega, by omega⟩ j x) (h.hh.h1 hj x) ⟨GG_upd x h.gg.1 q0 q1 q3 q11 hg, ZR_upd h.gg.2 q0 (by omega)⟩ (rn_cg (upd_o (fun z => q0 z.symm))) (fun i hi => upd_o (by omega))
theorem fr_ps3 {S0 S : SS} (h : FRps S0 S) (j : Nat) (x : Int32) : FRps S0 (ss S 3 j x) := h.tr (FRh.ps (FRh.rf.ss ⟨by decide, by decide⟩ j x))
theorem neg_rng {v : Nat} (h : 0 ≤ v ∧ v ≤ 300) : -300 ≤ (-nI v).toInt ∧ (-nI v).toInt ≤ 400 := by
  have : ∀ v, v ≤ 300 → -300 ≤ (-nI v).toInt ∧ (-nI v).toInt ≤ 400 := by decide +kernel
  exact this v h.2
theorem px_takeBack {b : Nat → Int32} {N c n : Nat} {S : SS} {t told : Nat} {δ : Nat → Int32} {nf : Nat → Nat → Int32} {nl : Nat → Nat} (hn : 269 ≤ n) (h : CS b N c n S t told δ nf nl) : AM yX3_takeBack cX3_takeBack 1 (some .boolean) [] 2 0 0 [.ref 1] n (Hp S) (PIe n (RB S (pHdr b N 6 0 150 (pos b N t, δ, told)) (PO PZ b N c n t nf nl))) := by
  intro has
  change WA RX3 cX3_takeBack 1 [] _ _ 0 0 0 [some (.ref 1)] [] n _
  have ht := h.tL
  have hc := h.cL
  refine wa_aload_n dX3_takeBack_0 rfl ?_
  refine wa_iconst (x := 0) dX3_takeBack_1 (by decide) ?_
  refine wa_sipush (x := 150) dX3_takeBack_2 (by decide) ?_
  refine c_VQI dX3_takeBack_5 (px_takeNumber hn h (lo := 0) (ho := 150) (by decide) (by decide)) lk_X3_100 rfl (isO_PA _ _ _) rfl (ltS hn) (fun w1 S1 r1 => ?_)
  cases hx1 : pNum b N 0 150 (pos b N t) with
  | inl e =>
    obtain ⟨f1, rfl, q1⟩ := RB.l hx1 r1
    refine wa_if_ne 13 dX3_takeBack_8 rfl (fun c8 => absurd rfl c8) (fun c8 => ?_)
    refine wa_iconst (x := 0) dX3_takeBack_11 (by decide) ?_
    exact wa_ireturn dX3_takeBack_12 ⟨Nat.le_refl _, Nat.le_refl _, ⟨_, rfl, rfl⟩, rfl, _, _, rfl, rfl, RB.ofl (by simp only [pHdr, pHold, pNumA, pWord, pb, hx1]) (FRps.rf.tr f1) q1⟩
  | inr a1 =>
    obtain ⟨v1, p1⟩ := a1
    obtain ⟨f1, rfl, (e1 : p1 = pos b N (t + 1)), g1, m1, h1⟩ := RB.r hx1 r1
    subst e1
    have hH := isH_draft
    have k1 := h1.hdr (j := 4) (by decide) (by decide) (x := (nI v1)) (GH_6 h1.gg.1.2.1 (by rw [nI_toInt (by omega)]; omega))
    refine wa_if_ne 13 dX3_takeBack_8 rfl (fun c8 => ?_) (fun c8 => absurd c8 (by decide))
    refine wa_aload_n dX3_takeBack_13 rfl ?_
    refine g_PA (by assumption) 2 dX3_takeBack_14 fl_X3_18 (by decide) rfl ?_
    refine wa_aload_n dX3_takeBack_17 rfl ?_
    refine g_PA hn 7 dX3_takeBack_18 fl_X3_97 (by decide) (v := .int (nI v1)) (congrArg (fun x => some (Value.int x)) m1) ?_
    refine p_HO (by assumption) (by assumption) 4 dX3_takeBack_21 fl_X3_169 (by decide) rfl rfl rfl rfl (fun _ _ _ => rfl) (Nat.le_of_ble_eq_true rfl) ?_
    refine wa_iconst (x := 1) dX3_takeBack_24 (by decide) ?_
    exact wa_ireturn dX3_takeBack_25 ⟨Nat.le_refl _, Nat.le_refl _, ⟨_, rfl, rfl⟩, rfl, _, _, rfl, rfl, RB.ofr (a := (pos b N (t + 1), upd (δ) 6 (nI v1), told)) (by simp only [pHdr, pHold, pNumA, pWord, pb, hx1]) (fr_ps3 (FRps.rf.tr f1) _ _) ⟨(t + 1), rfl, by omega, k1⟩⟩
theorem px_takeExercise {b : Nat → Int32} {N c n : Nat} {S : SS} {t told : Nat} {δ : Nat → Int32} {nf : Nat → Nat → Int32} {nl : Nat → Nat} (hn : 269 ≤ n) (h : CS b N c n S t told δ nf nl) : AM yX3_takeExercise cX3_takeExercise 1 (some .boolean) [] 2 0 0 [.ref 1] n (Hp S) (PIe n (RB S (pHdr b N 10 0 335 (pos b N t, δ, told)) (PO PZ b N c n t nf nl))) := by
  intro has
  change WA RX3 cX3_takeExercise 1 [] _ _ 0 0 0 [some (.ref 1)] [] n _
  have ht := h.tL
  have hc := h.cL
  refine wa_aload_n dX3_takeExercise_0 rfl ?_
  refine wa_iconst (x := 0) dX3_takeExercise_1 (by decide) ?_
  refine wa_sipush (x := 335) dX3_takeExercise_2 (by decide) ?_
  refine c_VQI dX3_takeExercise_5 (px_takeNumber hn h (lo := 0) (ho := 335) (by decide) (by decide)) lk_X3_100 rfl (isO_PA _ _ _) rfl (ltS hn) (fun w1 S1 r1 => ?_)
  cases hx1 : pNum b N 0 335 (pos b N t) with
  | inl e =>
    obtain ⟨f1, rfl, q1⟩ := RB.l hx1 r1
    refine wa_if_ne 13 dX3_takeExercise_8 rfl (fun c8 => absurd rfl c8) (fun c8 => ?_)
    refine wa_iconst (x := 0) dX3_takeExercise_11 (by decide) ?_
    exact wa_ireturn dX3_takeExercise_12 ⟨Nat.le_refl _, Nat.le_refl _, ⟨_, rfl, rfl⟩, rfl, _, _, rfl, rfl, RB.ofl (by simp only [pHdr, pHold, pNumA, pWord, pb, hx1]) (FRps.rf.tr f1) q1⟩
  | inr a1 =>
    obtain ⟨v1, p1⟩ := a1
    obtain ⟨f1, rfl, (e1 : p1 = pos b N (t + 1)), g1, m1, h1⟩ := RB.r hx1 r1
    subst e1
    have hH := isH_draft
    have k1 := h1.hdr (j := 8) (by decide) (by decide) (x := (nI v1)) (GH_10 h1.gg.1.2.1 (by rw [nI_toInt (by omega)]; omega))
    refine wa_if_ne 13 dX3_takeExercise_8 rfl (fun c8 => ?_) (fun c8 => absurd c8 (by decide))
    refine wa_aload_n dX3_takeExercise_13 rfl ?_
    refine g_PA (by assumption) 2 dX3_takeExercise_14 fl_X3_18 (by decide) rfl ?_
    refine wa_aload_n dX3_takeExercise_17 rfl ?_
    refine g_PA hn 7 dX3_takeExercise_18 fl_X3_97 (by decide) (v := .int (nI v1)) (congrArg (fun x => some (Value.int x)) m1) ?_
    refine p_HO (by assumption) (by assumption) 8 dX3_takeExercise_21 fl_X3_181 (by decide) rfl rfl rfl rfl (fun _ _ _ => rfl) (Nat.le_of_ble_eq_true rfl) ?_
    refine wa_iconst (x := 1) dX3_takeExercise_24 (by decide) ?_
    exact wa_ireturn dX3_takeExercise_25 ⟨Nat.le_refl _, Nat.le_refl _, ⟨_, rfl, rfl⟩, rfl, _, _, rfl, rfl, RB.ofr (a := (pos b N (t + 1), upd (δ) 10 (nI v1), told)) (by simp only [pHdr, pHold, pNumA, pWord, pb, hx1]) (fr_ps3 (FRps.rf.tr f1) _ _) ⟨(t + 1), rfl, by omega, k1⟩⟩
theorem px_takeControl {b : Nat → Int32} {N c n : Nat} {S : SS} {t told : Nat} {δ : Nat → Int32} {nf : Nat → Nat → Int32} {nl : Nat → Nat} (hn : 269 ≤ n) (h : CS b N c n S t told δ nf nl) : AM yX3_takeControl cX3_takeControl 1 (some .boolean) [] 2 0 0 [.ref 1] n (Hp S) (PIe n (RB S (pb (pb (pHdr b N 7 0 50 (pos b N t, δ, told)) (pHdr b N 8 1 50)) (pHdr b N 9 1 100)) (PO PZ b N c n t nf nl))) := by
  intro has
  change WA RX3 cX3_takeControl 1 [] _ _ 0 0 0 [some (.ref 1)] [] n _
  have ht := h.tL
  have hc := h.cL
  refine wa_aload_n dX3_takeControl_0 rfl ?_
  refine wa_iconst (x := 0) dX3_takeControl_1 (by decide) ?_
  refine wa_bipush (x := 50) dX3_takeControl_2 (by decide) ?_
  refine c_VQI dX3_takeControl_4 (px_takeNumber hn h (lo := 0) (ho := 50) (by decide) (by decide)) lk_X3_100 rfl (isO_PA _ _ _) rfl (ltS hn) (fun w1 S1 r1 => ?_)
  cases hx1 : pNum b N 0 50 (pos b N t) with
  | inl e =>
    obtain ⟨f1, rfl, q1⟩ := RB.l hx1 r1
    refine wa_if_ne 12 dX3_takeControl_7 rfl (fun c7 => absurd rfl c7) (fun c7 => ?_)
    refine wa_iconst (x := 0) dX3_takeControl_10 (by decide) ?_
    exact wa_ireturn dX3_takeControl_11 ⟨Nat.le_refl _, Nat.le_refl _, ⟨_, rfl, rfl⟩, rfl, _, _, rfl, rfl, RB.ofl (by simp only [pHdr, pHold, pNumA, pWord, pb, hx1]) (FRps.rf.tr f1) q1⟩
  | inr a1 =>
    obtain ⟨v1, p1⟩ := a1
    obtain ⟨f1, rfl, (e1 : p1 = pos b N (t + 1)), g1, m1, h1⟩ := RB.r hx1 r1
    subst e1
    have hH := isH_draft
    have k1 := h1.hdr (j := 5) (by decide) (by decide) (x := (nI v1)) (GH_7 h1.gg.1.2.1 (by rw [nI_toInt (by omega)]; omega))
    refine wa_if_ne 12 dX3_takeControl_7 rfl (fun c7 => ?_) (fun c7 => absurd c7 (by decide))
    refine wa_aload_n dX3_takeControl_12 rfl ?_
    refine g_PA (by assumption) 2 dX3_takeControl_13 fl_X3_18 (by decide) rfl ?_
    refine wa_aload_n dX3_takeControl_16 rfl ?_
    refine g_PA hn 7 dX3_takeControl_17 fl_X3_97 (by decide) (v := .int (nI v1)) (congrArg (fun x => some (Value.int x)) m1) ?_
    refine p_HO (by assumption) (by assumption) 5 dX3_takeControl_20 fl_X3_172 (by decide) rfl rfl rfl rfl (fun _ _ _ => rfl) (Nat.le_of_ble_eq_true rfl) ?_
    refine wa_aload_n dX3_takeControl_23 rfl ?_
    refine wa_iconst (x := 1) dX3_takeControl_24 (by decide) ?_
    refine wa_bipush (x := 50) dX3_takeControl_25 (by decide) ?_
    refine c_VQI dX3_takeControl_27 (px_takeNumber hn k1 (lo := 1) (ho := 50) (by decide) (by decide)) lk_X3_100 rfl (isO_PA _ _ _) rfl (ltS hn) (fun w2 S2 r2 => ?_)
    cases hx2 : pNum b N 1 50 (pos b N (t + 1)) with
    | inl e =>
      obtain ⟨f2, rfl, q2⟩ := RB.l hx2 r2
      refine wa_if_ne 35 dX3_takeControl_30 rfl (fun c30 => absurd rfl c30) (fun c30 => ?_)
      refine wa_iconst (x := 0) dX3_takeControl_33 (by decide) ?_
      exact wa_ireturn dX3_takeControl_34 ⟨Nat.le_refl _, Nat.le_refl _, ⟨_, rfl, rfl⟩, rfl, _, _, rfl, rfl, RB.ofl (by simp only [pHdr, pHold, pNumA, pWord, pb, hx1, hx2]) ((fr_ps3 (FRps.rf.tr f1) _ _).tr f2) q2⟩
    | inr a2 =>
      obtain ⟨v2, p2⟩ := a2
      obtain ⟨f2, rfl, (e2 : p2 = pos b N ((t + 1) + 1)), g2, m2, h2⟩ := RB.r hx2 r2
      subst e2
      have hH := isH_draft
      have k2 := h2.hdr (j := 6) (by decide) (by decide) (x := (nI v2)) (GH_8 h2.gg.1.2.1 (by rw [nI_toInt (by omega)]; omega))
      refine wa_if_ne 35 dX3_takeControl_30 rfl (fun c30 => ?_) (fun c30 => absurd c30 (by decide))
      refine wa_aload_n dX3_takeControl_35 rfl ?_
      refine g_PA (by assumption) 2 dX3_takeControl_36 fl_X3_18 (by decide) rfl ?_
      refine wa_aload_n dX3_takeControl_39 rfl ?_
      refine g_PA hn 7 dX3_takeControl_40 fl_X3_97 (by decide) (v := .int (nI v2)) (congrArg (fun x => some (Value.int x)) m2) ?_
      refine p_HO (by assumption) (by assumption) 6 dX3_takeControl_43 fl_X3_175 (by decide) rfl rfl rfl rfl (fun _ _ _ => rfl) (Nat.le_of_ble_eq_true rfl) ?_
      refine wa_aload_n dX3_takeControl_46 rfl ?_
      refine wa_iconst (x := 1) dX3_takeControl_47 (by decide) ?_
      refine wa_bipush (x := 100) dX3_takeControl_48 (by decide) ?_
      refine c_VQI dX3_takeControl_50 (px_takeNumber hn k2 (lo := 1) (ho := 100) (by decide) (by decide)) lk_X3_100 rfl (isO_PA _ _ _) rfl (ltS hn) (fun w3 S3 r3 => ?_)
      cases hx3 : pNum b N 1 100 (pos b N ((t + 1) + 1)) with
      | inl e =>
        obtain ⟨f3, rfl, q3⟩ := RB.l hx3 r3
        refine wa_if_ne 58 dX3_takeControl_53 rfl (fun c53 => absurd rfl c53) (fun c53 => ?_)
        refine wa_iconst (x := 0) dX3_takeControl_56 (by decide) ?_
        exact wa_ireturn dX3_takeControl_57 ⟨Nat.le_refl _, Nat.le_refl _, ⟨_, rfl, rfl⟩, rfl, _, _, rfl, rfl, RB.ofl (by simp only [pHdr, pHold, pNumA, pWord, pb, hx1, hx2, hx3]) ((fr_ps3 ((fr_ps3 (FRps.rf.tr f1) _ _).tr f2) _ _).tr f3) q3⟩
      | inr a3 =>
        obtain ⟨v3, p3⟩ := a3
        obtain ⟨f3, rfl, (e3 : p3 = pos b N (((t + 1) + 1) + 1)), g3, m3, h3⟩ := RB.r hx3 r3
        subst e3
        have hH := isH_draft
        have k3 := h3.hdr (j := 7) (by decide) (by decide) (x := (nI v3)) (GH_9 h3.gg.1.2.1 (by rw [nI_toInt (by omega)]; omega))
        refine wa_if_ne 58 dX3_takeControl_53 rfl (fun c53 => ?_) (fun c53 => absurd c53 (by decide))
        refine wa_aload_n dX3_takeControl_58 rfl ?_
        refine g_PA (by assumption) 2 dX3_takeControl_59 fl_X3_18 (by decide) rfl ?_
        refine wa_aload_n dX3_takeControl_62 rfl ?_
        refine g_PA hn 7 dX3_takeControl_63 fl_X3_97 (by decide) (v := .int (nI v3)) (congrArg (fun x => some (Value.int x)) m3) ?_
        refine p_HO (by assumption) (by assumption) 7 dX3_takeControl_66 fl_X3_178 (by decide) rfl rfl rfl rfl (fun _ _ _ => rfl) (Nat.le_of_ble_eq_true rfl) ?_
        refine wa_iconst (x := 1) dX3_takeControl_69 (by decide) ?_
        exact wa_ireturn dX3_takeControl_70 ⟨Nat.le_refl _, Nat.le_refl _, ⟨_, rfl, rfl⟩, rfl, _, _, rfl, rfl, RB.ofr (a := (pos b N (((t + 1) + 1) + 1), upd (upd (upd (δ) 7 (nI v1)) 8 (nI v2)) 9 (nI v3), told)) (by simp only [pHdr, pHold, pNumA, pWord, pb, hx1, hx2, hx3]) (fr_ps3 ((fr_ps3 ((fr_ps3 (FRps.rf.tr f1) _ _).tr f2) _ _).tr f3) _ _) ⟨(((t + 1) + 1) + 1), rfl, by omega, k3⟩⟩
theorem gs_HOLD : ("ValveRoom$Keyword", "HOLD", "LValveRoom$Keyword;", Value.ref (ab_CB + (112 + 2))) ∈ ab_st := by simp [ab_st]
theorem px_takeWindow {b : Nat → Int32} {N c n : Nat} {S : SS} {t told : Nat} {δ : Nat → Int32} {nf : Nat → Nat → Int32} {nl : Nat → Nat} (hn : 269 ≤ n) (h : CS b N c n S t told δ nf nl) : AM yX3_takeWindow cX3_takeWindow 1 (some .boolean) [] 2 0 0 [.ref 1] n (Hp S) (PIe n (RB S (pb (pHdr b N 4 1 99 (pos b N t, δ, told)) (pHold b N)) (PO PZ b N c n t nf nl))) := by
  intro has
  change WA RX3 cX3_takeWindow 1 [] _ _ 0 0 0 [some (.ref 1)] [] n _
  have ht := h.tL
  have hc := h.cL
  refine wa_aload_n dX3_takeWindow_0 rfl ?_
  refine wa_iconst (x := 1) dX3_takeWindow_1 (by decide) ?_
  refine wa_bipush (x := 99) dX3_takeWindow_2 (by decide) ?_
  refine c_VQI dX3_takeWindow_4 (px_takeNumber hn h (lo := 1) (ho := 99) (by decide) (by decide)) lk_X3_100 rfl (isO_PA _ _ _) rfl (ltS hn) (fun w1 S1 r1 => ?_)
  cases hx1 : pNum b N 1 99 (pos b N t) with
  | inl e =>
    obtain ⟨f1, rfl, q1⟩ := RB.l hx1 r1
    refine wa_if_ne 12 dX3_takeWindow_7 rfl (fun c7 => absurd rfl c7) (fun c7 => ?_)
    refine wa_iconst (x := 0) dX3_takeWindow_10 (by decide) ?_
    exact wa_ireturn dX3_takeWindow_11 ⟨Nat.le_refl _, Nat.le_refl _, ⟨_, rfl, rfl⟩, rfl, _, _, rfl, rfl, RB.ofl (by simp only [pHdr, pHold, pNumA, pWord, pb, hx1]) (FRps.rf.tr f1) q1⟩
  | inr a1 =>
    obtain ⟨v1, p1⟩ := a1
    obtain ⟨f1, rfl, (e1 : p1 = pos b N (t + 1)), g1, m1, h1⟩ := RB.r hx1 r1
    subst e1
    have hH := isH_draft
    have k1 := h1.hdr (j := 2) (by decide) (by decide) (x := (nI v1)) (GH_4 h1.gg.1.2.1 (by rw [nI_toInt (by omega)]; omega))
    refine wa_if_ne 12 dX3_takeWindow_7 rfl (fun c7 => ?_) (fun c7 => absurd c7 (by decide))
    refine wa_aload_n dX3_takeWindow_12 rfl ?_
    refine g_PA (by assumption) 2 dX3_takeWindow_13 fl_X3_18 (by decide) rfl ?_
    refine wa_aload_n dX3_takeWindow_16 rfl ?_
    refine g_PA hn 7 dX3_takeWindow_17 fl_X3_97 (by decide) (v := .int (nI v1)) (congrArg (fun x => some (Value.int x)) m1) ?_
    refine p_HO (by assumption) (by assumption) 2 dX3_takeWindow_20 fl_X3_156 (by decide) rfl rfl rfl rfl (fun _ _ _ => rfl) (Nat.le_of_ble_eq_true rfl) ?_
    refine wa_aload_n dX3_takeWindow_23 rfl ?_
    refine wa_gets dX3_takeWindow_24 gs_HOLD fl_X3_159 (Or.inr (Nat.le_add_right _ _)) ?_
    refine c_VQI dX3_takeWindow_27 (px_takeKeyword hn k1 (i := 2) (by decide)) lk_X3_163 rfl (isO_PA _ _ _) rfl (ltS hn) (fun w2 S2 r2 => ?_)
    cases hx2 : pWord b N 2 (pos b N (t + 1)) with
    | inl e =>
      obtain ⟨f2, rfl, q2⟩ := RB.l hx2 r2
      refine wa_if_eq 43 dX3_takeWindow_30 rfl (fun c30 => ?_) (fun c30 => absurd rfl c30)
      refine wa_iconst (x := 0) dX3_takeWindow_43 (by decide) ?_
      exact wa_ireturn dX3_takeWindow_44 ⟨Nat.le_refl _, Nat.le_refl _, ⟨_, rfl, rfl⟩, rfl, _, _, rfl, rfl, RB.ofl (by simp only [pHdr, pHold, pNumA, pb, hx1, hx2]) ((fr_ps3 (FRps.rf.tr f1) _ _).tr f2) q2⟩
    | inr a2 =>
      obtain ⟨f2, rfl, (e2 : a2 = pos b N ((t + 1) + 1)), h2⟩ := RB.r hx2 r2
      subst e2
      refine wa_if_eq 43 dX3_takeWindow_30 rfl (fun c30 => absurd c30 (by decide)) (fun c30 => ?_)
      refine wa_aload_n dX3_takeWindow_33 rfl ?_
      refine wa_iconst (x := 1) dX3_takeWindow_34 (by decide) ?_
      refine wa_bipush (x := 48) dX3_takeWindow_35 (by decide) ?_
      refine c_VQI dX3_takeWindow_37 (px_takeNumber hn h2 (lo := 1) (ho := 48) (by decide) (by decide)) lk_X3_100 rfl (isO_PA _ _ _) rfl (ltS hn) (fun w3 S3 r3 => ?_)
      cases hx3 : pNum b N 1 48 (pos b N ((t + 1) + 1)) with
      | inl e =>
        obtain ⟨f3, rfl, q3⟩ := RB.l hx3 r3
        refine wa_if_ne 45 dX3_takeWindow_40 rfl (fun c40 => absurd rfl c40) (fun c40 => ?_)
        refine wa_iconst (x := 0) dX3_takeWindow_43 (by decide) ?_
        exact wa_ireturn dX3_takeWindow_44 ⟨Nat.le_refl _, Nat.le_refl _, ⟨_, rfl, rfl⟩, rfl, _, _, rfl, rfl, RB.ofl (by simp only [pHdr, pHold, pNumA, pb, hx1, hx2, hx3]) (((fr_ps3 (FRps.rf.tr f1) _ _).tr f2).tr f3) q3⟩
      | inr a3 =>
        obtain ⟨v3, p3⟩ := a3
        obtain ⟨f3, rfl, (e3 : p3 = pos b N (((t + 1) + 1) + 1)), g3, m3, h3⟩ := RB.r hx3 r3
        subst e3
        have hH := isH_draft
        have k3 := h3.hdr (j := 3) (by decide) (by decide) (x := (nI v3)) (GH_5 h3.gg.1.2.1 (by rw [nI_toInt (by omega)]; omega))
        refine wa_if_ne 45 dX3_takeWindow_40 rfl (fun c40 => ?_) (fun c40 => absurd c40 (by decide))
        refine wa_aload_n dX3_takeWindow_45 rfl ?_
        refine g_PA (by assumption) 2 dX3_takeWindow_46 fl_X3_18 (by decide) rfl ?_
        refine wa_aload_n dX3_takeWindow_49 rfl ?_
        refine g_PA hn 7 dX3_takeWindow_50 fl_X3_97 (by decide) (v := .int (nI v3)) (congrArg (fun x => some (Value.int x)) m3) ?_
        refine p_HO (by assumption) (by assumption) 3 dX3_takeWindow_53 fl_X3_166 (by decide) rfl rfl rfl rfl (fun _ _ _ => rfl) (Nat.le_of_ble_eq_true rfl) ?_
        refine wa_iconst (x := 1) dX3_takeWindow_56 (by decide) ?_
        exact wa_ireturn dX3_takeWindow_57 ⟨Nat.le_refl _, Nat.le_refl _, ⟨_, rfl, rfl⟩, rfl, _, _, rfl, rfl, RB.ofr (a := (pos b N (((t + 1) + 1) + 1), upd (upd (δ) 4 (nI v1)) 5 (nI v3), told)) (by simp only [pHdr, pHold, pNumA, pb, hx1, hx2, hx3]) (fr_ps3 (((fr_ps3 (FRps.rf.tr f1) _ _).tr f2).tr f3) _ _) ⟨(((t + 1) + 1) + 1), rfl, by omega, k3⟩⟩
theorem px_takeOutside {b : Nat → Int32} {N c n : Nat} {S : SS} {t told : Nat} {δ : Nat → Int32} {nf : Nat → Nat → Int32} {nl : Nat → Nat} (hn : 269 ≤ n) (h : CS b N c n S t told δ nf nl) : AM yX3_takeOutside cX3_takeOutside 2 (some .boolean) [] 2 0 0 [.ref 1] n (Hp S) (PIe n (RB S (pOut1 b N (pos b N t, δ, told)) (PO PZ b N c n t nf nl))) := by
  intro has
  change WA RX3 cX3_takeOutside 2 [] _ _ 0 0 0 [some (.ref 1), none] [] n _
  have ht := h.tL
  have hc := h.cL
  by_cases hs : isS b N 45 (pos b N t) = true
  · have ht1 := h.nend (by rw [(isS_iff.mp hs).1]; decide)
    refine wa_aload_n dX3_takeOutside_0 rfl ?_
    refine wa_bipush (x := 45) dX3_takeOutside_1 (by decide) ?_
    refine c_VI dX3_takeOutside_3 (px_isSymbol hn h 45) lk_X3_87 rfl (isO_PA _ _ _) rfl (ltS hn) ?_
    rw [b2i_1 hs]
    refine wa_istore_n dX3_takeOutside_6 rfl ?_
    refine wa_iload_n dX3_takeOutside_7 rfl ?_
    refine wa_if_eq 15 dX3_takeOutside_8 rfl (fun c8 => absurd c8 (by decide)) (fun c8 => ?_)
    refine wa_aload_n dX3_takeOutside_11 rfl ?_
    refine c_VQV dX3_takeOutside_12 (px_pass hn h) lk_X3_90 rfl (isO_PA _ _ _) rfl (ltS hn) (fun S0 q0 => ?_)
    obtain ⟨q0, t1, ⟨-, q2⟩, q3⟩ := q0
    obtain rfl := q2 ht1
    refine wa_aload_n dX3_takeOutside_15 rfl ?_
    refine wa_iconst (x := 0) dX3_takeOutside_16 (by decide) ?_
    refine wa_iload_n dX3_takeOutside_17 rfl ?_
    refine wa_if_eq 27 dX3_takeOutside_18 rfl (fun c18 => absurd c18 (by decide)) (fun c18 => ?_)
    refine wa_sipush (x := 300) dX3_takeOutside_21 (by decide) ?_
    refine wa_goto 30 dX3_takeOutside_24 rfl ?_
    refine c_VQI dX3_takeOutside_30 (px_takeNumber hn q3 (lo := 0) (ho := 300) (by decide) (by decide)) lk_X3_100 rfl (isO_PA _ _ _) rfl (ltS hn) (fun w1 S1 r1 => ?_)
    cases hx1 : pNum b N 0 300 (pos b N (t + 1)) with
    | inl e =>
      obtain ⟨f1, rfl, q1⟩ := RB.l hx1 r1
      refine wa_if_ne 38 dX3_takeOutside_33 rfl (fun c33 => absurd rfl c33) (fun c33 => ?_)
      refine wa_iconst (x := 0) dX3_takeOutside_36 (by decide) ?_
      exact wa_ireturn dX3_takeOutside_37 ⟨Nat.le_refl _, Nat.le_refl _, ⟨_, rfl, rfl⟩, rfl, _, _, rfl, rfl, RB.ofl ((if_pos hs).trans (by show pb (pNum b N 0 300 (pos b N (t + 1))) _ = _; rw [hx1]; rfl)) (q0.tr f1) q1⟩
    | inr a1 =>
      obtain ⟨v1, p1⟩ := a1
      obtain ⟨f1, rfl, (e1 : p1 = pos b N ((t + 1) + 1)), g1, m1, h1⟩ := RB.r hx1 r1
      subst e1
      have hH := isH_draft
      have hz1 := neg_rng g1
      have k1 := h1.hdr (j := 1) (by decide) (by decide) (x := (-nI v1)) (GH_2 h1.gg.1.2.1 hz1)
      refine wa_if_ne 38 dX3_takeOutside_33 rfl (fun c33 => ?_) (fun c33 => absurd c33 (by decide))
      refine wa_aload_n dX3_takeOutside_38 rfl ?_
      refine g_PA (by assumption) 2 dX3_takeOutside_39 fl_X3_18 (by decide) rfl ?_
      refine wa_iload_n dX3_takeOutside_42 rfl ?_
      refine wa_if_eq 54 dX3_takeOutside_43 rfl (fun c43 => absurd c43 (by decide)) (fun c43 => ?_)
      refine wa_aload_n dX3_takeOutside_46 rfl ?_
      refine g_PA hn 7 dX3_takeOutside_47 fl_X3_97 (by decide) (v := .int (nI v1)) (congrArg (fun x => some (Value.int x)) m1) ?_
      refine wa_ineg dX3_takeOutside_50 ?_
      refine wa_goto 58 dX3_takeOutside_51 rfl ?_
      refine p_HO (by assumption) (by assumption) 1 dX3_takeOutside_58 fl_X3_153 (by decide) rfl rfl rfl rfl (fun _ _ _ => rfl) (Nat.le_of_ble_eq_true rfl) ?_
      refine wa_iconst (x := 1) dX3_takeOutside_61 (by decide) ?_
      exact wa_ireturn dX3_takeOutside_62 ⟨Nat.le_refl _, Nat.le_refl _, ⟨_, rfl, rfl⟩, rfl, _, _, rfl, rfl, RB.ofr (a := (pos b N ((t + 1) + 1), upd (δ) 2 (-nI v1), told)) ((if_pos hs).trans (by show pb (pNum b N 0 300 (pos b N (t + 1))) _ = _; rw [hx1]; rfl)) (fr_ps3 (q0.tr f1) _ _) ⟨((t + 1) + 1), rfl, by omega, k1⟩⟩
  · skip
    refine wa_aload_n dX3_takeOutside_0 rfl ?_
    refine wa_bipush (x := 45) dX3_takeOutside_1 (by decide) ?_
    refine c_VI dX3_takeOutside_3 (px_isSymbol hn h 45) lk_X3_87 rfl (isO_PA _ _ _) rfl (ltS hn) ?_
    rw [b2i_0 hs]
    refine wa_istore_n dX3_takeOutside_6 rfl ?_
    refine wa_iload_n dX3_takeOutside_7 rfl ?_
    refine wa_if_eq 15 dX3_takeOutside_8 rfl (fun c8 => ?_) (fun c8 => absurd rfl c8)
    refine wa_aload_n dX3_takeOutside_15 rfl ?_
    refine wa_iconst (x := 0) dX3_takeOutside_16 (by decide) ?_
    refine wa_iload_n dX3_takeOutside_17 rfl ?_
    refine wa_if_eq 27 dX3_takeOutside_18 rfl (fun c18 => ?_) (fun c18 => absurd rfl c18)
    refine wa_sipush (x := 400) dX3_takeOutside_27 (by decide) ?_
    refine c_VQI dX3_takeOutside_30 (px_takeNumber hn h (lo := 0) (ho := 400) (by decide) (by decide)) lk_X3_100 rfl (isO_PA _ _ _) rfl (ltS hn) (fun w1 S1 r1 => ?_)
    cases hx1 : pNum b N 0 400 (pos b N t) with
    | inl e =>
      obtain ⟨f1, rfl, q1⟩ := RB.l hx1 r1
      refine wa_if_ne 38 dX3_takeOutside_33 rfl (fun c33 => absurd rfl c33) (fun c33 => ?_)
      refine wa_iconst (x := 0) dX3_takeOutside_36 (by decide) ?_
      exact wa_ireturn dX3_takeOutside_37 ⟨Nat.le_refl _, Nat.le_refl _, ⟨_, rfl, rfl⟩, rfl, _, _, rfl, rfl, RB.ofl ((if_neg hs).trans (by simp only [pHdr, pb, hx1])) (FRps.rf.tr f1) q1⟩
    | inr a1 =>
      obtain ⟨v1, p1⟩ := a1
      obtain ⟨f1, rfl, (e1 : p1 = pos b N (t + 1)), g1, m1, h1⟩ := RB.r hx1 r1
      subst e1
      have hH := isH_draft
      have k1 := h1.hdr (j := 1) (by decide) (by decide) (x := (nI v1)) (GH_2 h1.gg.1.2.1 (by rw [nI_toInt (by omega)]; omega))
      refine wa_if_ne 38 dX3_takeOutside_33 rfl (fun c33 => ?_) (fun c33 => absurd c33 (by decide))
      refine wa_aload_n dX3_takeOutside_38 rfl ?_
      refine g_PA (by assumption) 2 dX3_takeOutside_39 fl_X3_18 (by decide) rfl ?_
      refine wa_iload_n dX3_takeOutside_42 rfl ?_
      refine wa_if_eq 54 dX3_takeOutside_43 rfl (fun c43 => ?_) (fun c43 => absurd rfl c43)
      refine wa_aload_n dX3_takeOutside_54 rfl ?_
      refine g_PA hn 7 dX3_takeOutside_55 fl_X3_97 (by decide) (v := .int (nI v1)) (congrArg (fun x => some (Value.int x)) m1) ?_
      refine p_HO (by assumption) (by assumption) 1 dX3_takeOutside_58 fl_X3_153 (by decide) rfl rfl rfl rfl (fun _ _ _ => rfl) (Nat.le_of_ble_eq_true rfl) ?_
      refine wa_iconst (x := 1) dX3_takeOutside_61 (by decide) ?_
      exact wa_ireturn dX3_takeOutside_62 ⟨Nat.le_refl _, Nat.le_refl _, ⟨_, rfl, rfl⟩, rfl, _, _, rfl, rfl, RB.ofr (a := (pos b N (t + 1), upd (δ) 2 (nI v1), told)) ((if_neg hs).trans (by simp only [pHdr, pb, hx1])) (fr_ps3 (FRps.rf.tr f1) _ _) ⟨(t + 1), rfl, by omega, k1⟩⟩

