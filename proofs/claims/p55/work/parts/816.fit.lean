/-! ValveRoom$Parser: a room's fittings. Written by program (wip/whole/gen/m816.py) but for the heads. -/
theorem addR_at (g : Nat → Int32) (x t pw ls v bt : Int32) : addR g x t pw ls v bt = fun k => if k = 71 + 66 * rn g + 6 then 1 else if k = 71 + 66 * rn g + 2 then bt else if k = 71 + 66 * rn g + 1 then v else if k = 71 + 66 * rn g + 4 then ls else if k = 71 + 66 * rn g + 3 then pw else if k = 71 + 66 * rn g + 0 then t else if k = 71 + 66 * rn g + 11 then x else if k = 0 then g 0 + 1 else g k := rfl
theorem addR_lo {g : Nat → Int32} {x t pw ls v bt : Int32} {k : Nat} (hk : k < 71 + 66 * rn g) (h0 : ¬ k = 0) : addR g x t pw ls v bt k = g k := by
  rw [addR_at]
  dsimp only
  rw [if_neg (by omega), if_neg (by omega), if_neg (by omega), if_neg (by omega), if_neg (by omega), if_neg (by omega), if_neg (by omega), if_neg h0]
theorem addR_hi {g : Nat → Int32} {x t pw ls v bt : Int32} {k : Nat} (hk : 71 + 66 * rn g + 5 = k ∨ (71 + 66 * rn g + 7 ≤ k ∧ ¬ k = 71 + 66 * rn g + 11)) : addR g x t pw ls v bt k = g k := by
  rw [addR_at]
  dsimp only
  rw [if_neg (by omega), if_neg (by omega), if_neg (by omega), if_neg (by omega), if_neg (by omega), if_neg (by omega), if_neg (by omega), if_neg (by omega)]
theorem addR_0 {g : Nat → Int32} {x t pw ls v bt : Int32} : addR g x t pw ls v bt 0 = g 0 + 1 := by
  rw [addR_at]
  dsimp only
  rw [if_neg (by omega), if_neg (by omega), if_neg (by omega), if_neg (by omega), if_neg (by omega), if_neg (by omega), if_neg (by omega), if_pos rfl]
theorem rn_addR {g : Nat → Int32} {x t pw ls v bt : Int32} (e0 : g 0 = nI (rn g)) (hr : rn g < 6) : rn (addR g x t pw ls v bt) = rn g + 1 := by
  have : rn (addR g x t pw ls v bt) = (addR g x t pw ls v bt 0).toInt.toNat := rfl
  rw [this, addR_0, e0, nI_1, nI_toInt (by omega)]
  rfl
theorem addR_p0 (g : Nat → Int32) (x t pw ls v bt y : Int32) : pt (addR g x t pw ls v bt) (rn g) 0 y = addR g x y pw ls v bt := by
  funext k
  rw [addR_at, addR_at]
  unfold pt upd
  dsimp only
  by_cases e : k = 71 + 66 * rn g + 0
  · rw [if_pos e, if_neg (by omega), if_neg (by omega), if_neg (by omega), if_neg (by omega), if_neg (by omega), if_pos e]
  · rw [if_neg e]
    simp only [if_neg e]
theorem addR_p3 (g : Nat → Int32) (x t pw ls v bt y : Int32) : pt (addR g x t pw ls v bt) (rn g) 3 y = addR g x t y ls v bt := by
  funext k
  rw [addR_at, addR_at]
  unfold pt upd
  dsimp only
  by_cases e : k = 71 + 66 * rn g + 3
  · rw [if_pos e, if_neg (by omega), if_neg (by omega), if_neg (by omega), if_neg (by omega), if_pos e]
  · rw [if_neg e]
    simp only [if_neg e]
theorem addR_p4 (g : Nat → Int32) (x t pw ls v bt y : Int32) : pt (addR g x t pw ls v bt) (rn g) 4 y = addR g x t pw y v bt := by
  funext k
  rw [addR_at, addR_at]
  unfold pt upd
  dsimp only
  by_cases e : k = 71 + 66 * rn g + 4
  · rw [if_pos e, if_neg (by omega), if_neg (by omega), if_neg (by omega), if_pos e]
  · rw [if_neg e]
    simp only [if_neg e]
theorem addR_p1 (g : Nat → Int32) (x t pw ls v bt y : Int32) : pt (addR g x t pw ls v bt) (rn g) 1 y = addR g x t pw ls y bt := by
  funext k
  rw [addR_at, addR_at]
  unfold pt upd
  dsimp only
  by_cases e : k = 71 + 66 * rn g + 1
  · rw [if_pos e, if_neg (by omega), if_neg (by omega), if_pos e]
  · rw [if_neg e]
    simp only [if_neg e]
theorem addR_p2 (g : Nat → Int32) (x t pw ls v bt y : Int32) : pt (addR g x t pw ls v bt) (rn g) 2 y = addR g x t pw ls v y := by
  funext k
  rw [addR_at, addR_at]
  unfold pt upd
  dsimp only
  by_cases e : k = 71 + 66 * rn g + 2
  · rw [if_pos e, if_neg (by omega), if_pos e]
  · rw [if_neg e]
    simp only [if_neg e]
abbrev TT : (Nat → Int32) → Prop := fun _ => True
theorem CSg.fit {b : Nat → Int32} {N c n : Nat} {S : SS} {t told i w : Nat} {y : Int32} {g : Nat → Int32} {nf : Nat → Nat → Int32} {nl : Nat → Nat} (h : CSg TT b N c n S t told g nf nl) (hi : i < rn g) (hw : w < 5) : CSg TT b N c n (ss S (3 + 5 + 3 * i) (w + 1) y) t told (pt g i w y) nf nl := by
  have h6 := h.hh.1.2.1
  refine h.dr (FRh.rf.ss ⟨by omega, by omega⟩ _ _) (h.hh.put1 (by omega) ((h.hh.lvT hi).put (by omega) y)) trivial (rn_cg (pt_lo g y (by decide))) (fun j hj => ?_)
  rw [of_pt g y (by omega) (by omega), if_neg (by omega)]
theorem CSg.fit0 {b : Nat → Int32} {N c n : Nat} {S : SS} {t told : Nat} {g : Nat → Int32} {nf : Nat → Nat → Int32} {nl : Nat → Nat} {x t0 pw ls v bt : Int32} (h : CSg TT b N c n S t told (addR g x t0 pw ls v bt) nf nl) (e0 : g 0 = nI (rn g)) (hr : rn g < 6) (y : Int32) : CSg TT b N c n (ss S (3 + 5 + 3 * rn g) 1 y) t told (addR g x y pw ls v bt) nf nl := by
  have := h.fit (i := rn g) (w := 0) (y := y) (by rw [rn_addR e0 hr]; omega) (by decide)
  rw [addR_p0] at this
  exact this
theorem CSg.fit3 {b : Nat → Int32} {N c n : Nat} {S : SS} {t told : Nat} {g : Nat → Int32} {nf : Nat → Nat → Int32} {nl : Nat → Nat} {x t0 pw ls v bt : Int32} (h : CSg TT b N c n S t told (addR g x t0 pw ls v bt) nf nl) (e0 : g 0 = nI (rn g)) (hr : rn g < 6) (y : Int32) : CSg TT b N c n (ss S (3 + 5 + 3 * rn g) 4 y) t told (addR g x t0 y ls v bt) nf nl := by
  have := h.fit (i := rn g) (w := 3) (y := y) (by rw [rn_addR e0 hr]; omega) (by decide)
  rw [addR_p3] at this
  exact this
theorem CSg.fit4 {b : Nat → Int32} {N c n : Nat} {S : SS} {t told : Nat} {g : Nat → Int32} {nf : Nat → Nat → Int32} {nl : Nat → Nat} {x t0 pw ls v bt : Int32} (h : CSg TT b N c n S t told (addR g x t0 pw ls v bt) nf nl) (e0 : g 0 = nI (rn g)) (hr : rn g < 6) (y : Int32) : CSg TT b N c n (ss S (3 + 5 + 3 * rn g) 5 y) t told (addR g x t0 pw y v bt) nf nl := by
  have := h.fit (i := rn g) (w := 4) (y := y) (by rw [rn_addR e0 hr]; omega) (by decide)
  rw [addR_p4] at this
  exact this
theorem CSg.fit1 {b : Nat → Int32} {N c n : Nat} {S : SS} {t told : Nat} {g : Nat → Int32} {nf : Nat → Nat → Int32} {nl : Nat → Nat} {x t0 pw ls v bt : Int32} (h : CSg TT b N c n S t told (addR g x t0 pw ls v bt) nf nl) (e0 : g 0 = nI (rn g)) (hr : rn g < 6) (y : Int32) : CSg TT b N c n (ss S (3 + 5 + 3 * rn g) 2 y) t told (addR g x t0 pw ls y bt) nf nl := by
  have := h.fit (i := rn g) (w := 1) (y := y) (by rw [rn_addR e0 hr]; omega) (by decide)
  rw [addR_p1] at this
  exact this
theorem CSg.fit2 {b : Nat → Int32} {N c n : Nat} {S : SS} {t told : Nat} {g : Nat → Int32} {nf : Nat → Nat → Int32} {nl : Nat → Nat} {x t0 pw ls v bt : Int32} (h : CSg TT b N c n S t told (addR g x t0 pw ls v bt) nf nl) (e0 : g 0 = nI (rn g)) (hr : rn g < 6) (y : Int32) : CSg TT b N c n (ss S (3 + 5 + 3 * rn g) 3 y) t told (addR g x t0 pw ls v y) nf nl := by
  have := h.fit (i := rn g) (w := 2) (y := y) (by rw [rn_addR e0 hr]; omega) (by decide)
  rw [addR_p2] at this
  exact this
theorem fr_psR {S0 S : SS} (h : FRps S0 S) {i : Nat} (hi : i < 6) (j : Nat) (x : Int32) : FRps S0 (ss S (3 + 5 + 3 * i) j x) := h.tr (FRh.ps (FRh.rf.ss ⟨by omega, by omega⟩ j x))
/-- what the fittings leave -/
def FO (b : Nat → Int32) (N c n t told : Nat) (δ : Nat → Int32) (x : Int32) (nf : Nat → Nat → Int32) (nl : Nat → Nat) : (Nat × Nat × Nat × Nat × Nat) × Nat → SS → Prop := fun f S' => ∃ t', f.2 = pos b N t' ∧ t ≤ t' ∧ (f.1.1 ≤ 400 ∧ (1 ≤ f.1.2.1 ∧ f.1.2.1 ≤ 50) ∧ f.1.2.2.1 ≤ 50 ∧ f.1.2.2.2.1 ≤ 100 ∧ f.1.2.2.2.2 ≤ 9999) ∧ CSg TT b N c n S' t' told (addR δ x (nI f.1.1) (nI f.1.2.1) (nI f.1.2.2.1) (nI f.1.2.2.2.1) (nI f.1.2.2.2.2)) nf nl
theorem px_takeFittings {b : Nat → Int32} {N c n : Nat} {S : SS} {t told : Nat} {δ : Nat → Int32} {nf : Nat → Nat → Int32} {nl : Nat → Nat} {x t0 pw ls v bt : Int32} (hn : 269 ≤ n) (h : CSg TT b N c n S t told (addR δ x t0 pw ls v bt) nf nl) (e0 : δ 0 = nI (rn δ)) (hr : rn δ < 6) : AM yX3_takeFittings cX3_takeFittings 2 (some .boolean) [] 3 0 0 [.ref 1, .ref (3 + 5 + 3 * rn δ)] n (Hp S) (PIe n (RB S (pFit b N (pos b N t)) (FO b N c n t told δ x nf nl))) := by
  intro has
  change WA RX3 cX3_takeFittings 2 [] _ _ 0 0 0 [some (.ref 1), some (.ref (3 + 5 + 3 * rn δ))] [] n _
  have ht := h.tL
  have hc := h.cL
  have hR : isR (3 + 5 + 3 * rn δ) := isH_draft.R hr
  refine wa_aload_n dX3_takeFittings_0 rfl ?_
  refine wa_gets dX3_takeFittings_1 gs_TEMP fl_X3_201 (Or.inr (Nat.le_add_right _ _)) ?_
  refine c_VQI dX3_takeFittings_4 (px_takeKeyword hn h (i := 7) (by decide)) lk_X3_163 rfl (isO_PA _ _ _) rfl (ltS hn) (fun w1 S1 r1 => ?_)
  cases hx1 : pWord b N 7 (pos b N t) with
  | inl e =>
    obtain ⟨f1, rfl, q1⟩ := RB.l hx1 r1
    refine wa_if_eq 21 dX3_takeFittings_7 rfl (fun c7 => ?_) (fun c7 => absurd rfl c7)
    refine wa_iconst (x := 0) dX3_takeFittings_21 (by decide) ?_
    exact wa_ireturn dX3_takeFittings_22 ⟨Nat.le_refl _, Nat.le_refl _, ⟨_, rfl, rfl⟩, rfl, _, _, rfl, rfl, RB.ofl (by simp only [pFit, pNumA, pb, hx1]) f1 q1⟩
  | inr a1 =>
    obtain ⟨f1, rfl, (e1 : a1 = pos b N (t + 1)), h1⟩ := RB.r hx1 r1
    subst e1
    refine wa_if_eq 21 dX3_takeFittings_7 rfl (fun c7 => absurd c7 (by decide)) (fun c7 => ?_)
    refine wa_aload_n dX3_takeFittings_10 rfl ?_
    refine wa_iconst (x := 0) dX3_takeFittings_11 (by decide) ?_
    refine wa_sipush (x := 400) dX3_takeFittings_12 (by decide) ?_
    refine c_VQI dX3_takeFittings_15 (px_takeNumber hn h1 (lo := 0) (ho := 400) (by decide) (by decide)) lk_X3_100 rfl (isO_PA _ _ _) rfl (ltS hn) (fun w2 S2 r2 => ?_)
    cases hx2 : pNum b N 0 400 (pos b N (t + 1)) with
    | inl e =>
      obtain ⟨f2, rfl, q2⟩ := RB.l hx2 r2
      refine wa_if_ne 23 dX3_takeFittings_18 rfl (fun c18 => absurd rfl c18) (fun c18 => ?_)
      refine wa_iconst (x := 0) dX3_takeFittings_21 (by decide) ?_
      exact wa_ireturn dX3_takeFittings_22 ⟨Nat.le_refl _, Nat.le_refl _, ⟨_, rfl, rfl⟩, rfl, _, _, rfl, rfl, RB.ofl (by simp only [pFit, pNumA, pb, hx1, hx2]) (f1.tr f2) q2⟩
    | inr a2 =>
      obtain ⟨v2, p2⟩ := a2
      obtain ⟨f2, rfl, (e2 : p2 = pos b N (t + 1 + 1)), g2, m2, h2⟩ := RB.r hx2 r2
      subst e2
      have k2 := CSg.fit0 h2 e0 hr (nI v2)
      refine wa_if_ne 23 dX3_takeFittings_18 rfl (fun c18 => ?_) (fun c18 => absurd c18 (by decide))
      refine wa_aload_n dX3_takeFittings_23 rfl ?_
      refine wa_aload_n dX3_takeFittings_24 rfl ?_
      refine g_PA hn 7 dX3_takeFittings_25 fl_X3_97 (by decide) (v := .int (nI v2)) (congrArg (fun x => some (Value.int x)) m2) ?_
      refine p_RO (by assumption) (by assumption) 1 dX3_takeFittings_28 fl_X3_204 (by decide) rfl rfl rfl rfl (fun _ _ _ => rfl) (Nat.le_of_ble_eq_true rfl) ?_
      refine wa_aload_n dX3_takeFittings_31 rfl ?_
      refine wa_gets dX3_takeFittings_32 gs_POWER fl_X3_207 (Or.inr (Nat.le_add_right _ _)) ?_
      refine wa_iconst (x := 1) dX3_takeFittings_35 (by decide) ?_
      refine wa_bipush (x := 50) dX3_takeFittings_36 (by decide) ?_
      refine wa_bipush (x := 10) dX3_takeFittings_38 (by decide) ?_
      refine c_VQI dX3_takeFittings_40 (px_takeOption hn k2 (i := 8) (lo := 1) (ho := 50) (pl := 10) (by decide) (by decide) (by decide)) lk_X3_210 rfl (isO_PA _ _ _) rfl (ltS hn) (fun w3 S3 r3 => ?_)
      cases hx3 : pNumIf b N 8 10 1 50 (pos b N (t + 1 + 1)) with
      | inl e =>
        obtain ⟨f3, rfl, q3⟩ := RB.l hx3 r3
        refine wa_if_ne 48 dX3_takeFittings_43 rfl (fun c43 => absurd rfl c43) (fun c43 => ?_)
        refine wa_iconst (x := 0) dX3_takeFittings_46 (by decide) ?_
        exact wa_ireturn dX3_takeFittings_47 ⟨Nat.le_refl _, Nat.le_refl _, ⟨_, rfl, rfl⟩, rfl, _, _, rfl, rfl, RB.ofl (by simp only [pFit, pNumA, pb, hx1, hx2, hx3]) ((fr_psR (f1.tr f2) hr _ _).tr f3) q3⟩
      | inr a3 =>
        obtain ⟨v3, p3⟩ := a3
        obtain ⟨f3, rfl, w3, e3, l3, g3, m3, h3⟩ := RB.r hx3 r3
        dsimp only at e3 g3 m3
        subst e3
        have k3 := CSg.fit3 h3 e0 hr (nI v3)
        refine wa_if_ne 48 dX3_takeFittings_43 rfl (fun c43 => ?_) (fun c43 => absurd c43 (by decide))
        refine wa_aload_n dX3_takeFittings_48 rfl ?_
        refine wa_aload_n dX3_takeFittings_49 rfl ?_
        refine g_PA hn 7 dX3_takeFittings_50 fl_X3_97 (by decide) (v := .int (nI v3)) (congrArg (fun x => some (Value.int x)) m3) ?_
        refine p_RO (by assumption) (by assumption) 4 dX3_takeFittings_53 fl_X3_214 (by decide) rfl rfl rfl rfl (fun _ _ _ => rfl) (Nat.le_of_ble_eq_true rfl) ?_
        refine wa_aload_n dX3_takeFittings_56 rfl ?_
        refine wa_gets dX3_takeFittings_57 gs_LOSS fl_X3_217 (Or.inr (Nat.le_add_right _ _)) ?_
        refine wa_iconst (x := 0) dX3_takeFittings_60 (by decide) ?_
        refine wa_bipush (x := 50) dX3_takeFittings_61 (by decide) ?_
        refine wa_iconst (x := 4) dX3_takeFittings_63 (by decide) ?_
        refine c_VQI dX3_takeFittings_64 (px_takeOption hn k3 (i := 9) (lo := 0) (ho := 50) (pl := 4) (by decide) (by decide) (by decide)) lk_X3_210 rfl (isO_PA _ _ _) rfl (ltS hn) (fun w4 S4 r4 => ?_)
        cases hx4 : pNumIf b N 9 4 0 50 (pos b N w3) with
        | inl e =>
          obtain ⟨f4, rfl, q4⟩ := RB.l hx4 r4
          refine wa_if_ne 72 dX3_takeFittings_67 rfl (fun c67 => absurd rfl c67) (fun c67 => ?_)
          refine wa_iconst (x := 0) dX3_takeFittings_70 (by decide) ?_
          exact wa_ireturn dX3_takeFittings_71 ⟨Nat.le_refl _, Nat.le_refl _, ⟨_, rfl, rfl⟩, rfl, _, _, rfl, rfl, RB.ofl (by simp only [pFit, pNumA, pb, hx1, hx2, hx3, hx4]) ((fr_psR ((fr_psR (f1.tr f2) hr _ _).tr f3) hr _ _).tr f4) q4⟩
        | inr a4 =>
          obtain ⟨v4, p4⟩ := a4
          obtain ⟨f4, rfl, w4, e4, l4, g4, m4, h4⟩ := RB.r hx4 r4
          dsimp only at e4 g4 m4
          subst e4
          have k4 := CSg.fit4 h4 e0 hr (nI v4)
          refine wa_if_ne 72 dX3_takeFittings_67 rfl (fun c67 => ?_) (fun c67 => absurd c67 (by decide))
          refine wa_aload_n dX3_takeFittings_72 rfl ?_
          refine wa_aload_n dX3_takeFittings_73 rfl ?_
          refine g_PA hn 7 dX3_takeFittings_74 fl_X3_97 (by decide) (v := .int (nI v4)) (congrArg (fun x => some (Value.int x)) m4) ?_
          refine p_RO (by assumption) (by assumption) 5 dX3_takeFittings_77 fl_X3_220 (by decide) rfl rfl rfl rfl (fun _ _ _ => rfl) (Nat.le_of_ble_eq_true rfl) ?_
          refine wa_aload_n dX3_takeFittings_80 rfl ?_
          refine wa_gets dX3_takeFittings_81 gs_VALVE fl_X3_223 (Or.inr (Nat.le_add_right _ _)) ?_
          refine wa_iconst (x := 0) dX3_takeFittings_84 (by decide) ?_
          refine wa_bipush (x := 100) dX3_takeFittings_85 (by decide) ?_
          refine wa_iconst (x := 0) dX3_takeFittings_87 (by decide) ?_
          refine c_VQI dX3_takeFittings_88 (px_takeOption hn k4 (i := 10) (lo := 0) (ho := 100) (pl := 0) (by decide) (by decide) (by decide)) lk_X3_210 rfl (isO_PA _ _ _) rfl (ltS hn) (fun w5 S5 r5 => ?_)
          cases hx5 : pNumIf b N 10 0 0 100 (pos b N w4) with
          | inl e =>
            obtain ⟨f5, rfl, q5⟩ := RB.l hx5 r5
            refine wa_if_ne 96 dX3_takeFittings_91 rfl (fun c91 => absurd rfl c91) (fun c91 => ?_)
            refine wa_iconst (x := 0) dX3_takeFittings_94 (by decide) ?_
            exact wa_ireturn dX3_takeFittings_95 ⟨Nat.le_refl _, Nat.le_refl _, ⟨_, rfl, rfl⟩, rfl, _, _, rfl, rfl, RB.ofl (by simp only [pFit, pNumA, pb, hx1, hx2, hx3, hx4, hx5]) ((fr_psR ((fr_psR ((fr_psR (f1.tr f2) hr _ _).tr f3) hr _ _).tr f4) hr _ _).tr f5) q5⟩
          | inr a5 =>
            obtain ⟨v5, p5⟩ := a5
            obtain ⟨f5, rfl, w5, e5, l5, g5, m5, h5⟩ := RB.r hx5 r5
            dsimp only at e5 g5 m5
            subst e5
            have k5 := CSg.fit1 h5 e0 hr (nI v5)
            refine wa_if_ne 96 dX3_takeFittings_91 rfl (fun c91 => ?_) (fun c91 => absurd c91 (by decide))
            refine wa_aload_n dX3_takeFittings_96 rfl ?_
            refine wa_aload_n dX3_takeFittings_97 rfl ?_
            refine g_PA hn 7 dX3_takeFittings_98 fl_X3_97 (by decide) (v := .int (nI v5)) (congrArg (fun x => some (Value.int x)) m5) ?_
            refine p_RO (by assumption) (by assumption) 2 dX3_takeFittings_101 fl_X3_226 (by decide) rfl rfl rfl rfl (fun _ _ _ => rfl) (Nat.le_of_ble_eq_true rfl) ?_
            refine wa_aload_n dX3_takeFittings_104 rfl ?_
            refine wa_gets dX3_takeFittings_105 gs_BATTERY fl_X3_229 (Or.inr (Nat.le_add_right _ _)) ?_
            refine wa_iconst (x := 0) dX3_takeFittings_108 (by decide) ?_
            refine wa_sipush (x := 9999) dX3_takeFittings_109 (by decide) ?_
            refine wa_sipush (x := 1000) dX3_takeFittings_112 (by decide) ?_
            refine c_VQI dX3_takeFittings_115 (px_takeOption hn k5 (i := 11) (lo := 0) (ho := 9999) (pl := 1000) (by decide) (by decide) (by decide)) lk_X3_210 rfl (isO_PA _ _ _) rfl (ltS hn) (fun w6 S6 r6 => ?_)
            cases hx6 : pNumIf b N 11 1000 0 9999 (pos b N w5) with
            | inl e =>
              obtain ⟨f6, rfl, q6⟩ := RB.l hx6 r6
              refine wa_if_ne 123 dX3_takeFittings_118 rfl (fun c118 => absurd rfl c118) (fun c118 => ?_)
              refine wa_iconst (x := 0) dX3_takeFittings_121 (by decide) ?_
              exact wa_ireturn dX3_takeFittings_122 ⟨Nat.le_refl _, Nat.le_refl _, ⟨_, rfl, rfl⟩, rfl, _, _, rfl, rfl, RB.ofl (by simp only [pFit, pNumA, pb, hx1, hx2, hx3, hx4, hx5, hx6]) ((fr_psR ((fr_psR ((fr_psR ((fr_psR (f1.tr f2) hr _ _).tr f3) hr _ _).tr f4) hr _ _).tr f5) hr _ _).tr f6) q6⟩
            | inr a6 =>
              obtain ⟨v6, p6⟩ := a6
              obtain ⟨f6, rfl, w6, e6, l6, g6, m6, h6⟩ := RB.r hx6 r6
              dsimp only at e6 g6 m6
              subst e6
              have k6 := CSg.fit2 h6 e0 hr (nI v6)
              refine wa_if_ne 123 dX3_takeFittings_118 rfl (fun c118 => ?_) (fun c118 => absurd c118 (by decide))
              refine wa_aload_n dX3_takeFittings_123 rfl ?_
              refine wa_aload_n dX3_takeFittings_124 rfl ?_
              refine g_PA hn 7 dX3_takeFittings_125 fl_X3_97 (by decide) (v := .int (nI v6)) (congrArg (fun x => some (Value.int x)) m6) ?_
              refine p_RO (by assumption) (by assumption) 3 dX3_takeFittings_128 fl_X3_232 (by decide) rfl rfl rfl rfl (fun _ _ _ => rfl) (Nat.le_of_ble_eq_true rfl) ?_
              refine wa_iconst (x := 1) dX3_takeFittings_131 (by decide) ?_
              exact wa_ireturn dX3_takeFittings_132 ⟨Nat.le_refl _, Nat.le_refl _, ⟨_, rfl, rfl⟩, rfl, _, _, rfl, rfl, RB.ofr (a := ((v2, v3, v4, v5, v6), pos b N w6)) (by simp only [pFit, pNumA, pb, hx1, hx2, hx3, hx4, hx5, hx6]) (fr_psR ((fr_psR ((fr_psR ((fr_psR ((fr_psR (f1.tr f2) hr _ _).tr f3) hr _ _).tr f4) hr _ _).tr f5) hr _ _).tr f6) hr _ _) ⟨w6, rfl, by omega, ⟨by dsimp only; omega, by dsimp only; omega, by dsimp only; omega, by dsimp only; omega, by dsimp only; omega⟩, k6⟩⟩

