/-! ValveRoom$Parser: a plan. Written by program (wip/whole/gen/m815.py) but for the heads. -/
theorem pKind_l {b : Nat → Int32} {N p : Nat} {e : Nat × Nat} (h : pKind b N p = .inl e) : e = (1, p) := by
  unfold pKind at h
  split at h
  · exact absurd h (by simp)
  split at h
  · exact absurd h (by simp)
  split at h
  · exact absurd h (by simp)
  split at h
  · exact absurd h (by simp)
  exact (Sum.inl.inj h).symm
theorem plan_hi {g : Nat → Int32} {t r kk : Int32} {j : Nat} (hp : pn g < 20) (hj : 71 ≤ j) : f_plan t r kk g j = g j := by
  have := ipos_le g t (pn g)
  exact ins_lo (by omega) (Or.inr ⟨by omega, by omega, hp⟩)
theorem ZR_plan {g : Nat → Int32} {t r kk : Int32} (h : ZR g) (hp : pn g < 20) : ZR (f_plan t r kk g) := fun j hj => by
  have := ipos_le g t (pn g)
  rw [rn_cg (show f_plan t r kk g 0 = g 0 from ins_lo (by decide) (Or.inl (by decide)))] at hj
  exact (ins_lo (by omega) (Or.inr ⟨by omega, by omega, hp⟩)).trans (h j hj)
theorem px_takePlan {b : Nat → Int32} {N c n : Nat} {S : SS} {t told : Nat} {δ : Nat → Int32} {nf : Nat → Nat → Int32} {nl : Nat → Nat} (hn : 269 ≤ n) (h : CS b N c n S t told δ nf nl) (hk0 : ¬ tk b N (pos b N t) = 0) : AM yX3_takePlan cX3_takePlan 4 (some .boolean) [] 7 0 0 [.ref 1] n (Hp S) (PIe n (RB S (pb (pPlan1 b N (pos b N t, δ, told)) (fun q => .inr (q.2.2.2, f_plan (nI q.1) (nI q.2.1) (nI q.2.2.1) δ, told))) (PO PZ b N c n t nf nl))) := by
  intro has
  change WA RX3 cX3_takePlan 4 [] _ _ 0 0 0 [some (.ref 1), none, none, none] [] n _
  have ht := h.tL
  have hc := h.cL
  have ht1 := h.nend hk0
  have h20 := h.gg.1.pn20
  by_cases hp : pn δ = 20
  · skip
    refine wa_aload_n dX3_takePlan_0 rfl ?_
    refine g_PA (by assumption) 2 dX3_takePlan_1 fl_X3_18 (by decide) rfl ?_
    refine H_hd h.hh hn 11 dX3_takePlan_4 fl_X3_257 (by decide) (by decide) (fun _ _ _ => rfl) ?_
    rw [show δ (hm 11) = nI (pn δ) from h.gg.1.e3]
    refine wa_bipush (x := 20) dX3_takePlan_7 (by decide) ?_
    refine wa_icmp_lt 18 dX3_takePlan_9 rfl (fun c9 => absurd c9 (by rw [hp]; decide)) (fun c9 => ?_)
    refine wa_aload_n dX3_takePlan_12 rfl ?_
    refine wa_iconst (x := 5) dX3_takePlan_13 (by decide) ?_
    refine c_VI dX3_takePlan_14 (px_fail (S := S) hn h 5) lk_X3_56 rfl (isO_PA _ _ _) rfl (ltS hn) ?_
    exact wa_ireturn dX3_takePlan_17 ⟨Nat.le_refl _, Nat.le_refl _, ⟨_, rfl, rfl⟩, rfl, _, _, rfl, rfl, RB.ofl (by unfold pPlan1; show pb (if pn δ = 20 then _ else _) _ = _; rw [if_pos hp]; rfl) (fail_fr FRps.rf _ _) (fail_err _ _ _)⟩
  refine wa_aload_n dX3_takePlan_0 rfl ?_
  refine g_PA (by assumption) 2 dX3_takePlan_1 fl_X3_18 (by decide) rfl ?_
  refine H_hd h.hh hn 11 dX3_takePlan_4 fl_X3_257 (by decide) (by decide) (fun _ _ _ => rfl) ?_
  rw [show δ (hm 11) = nI (pn δ) from h.gg.1.e3]
  refine wa_bipush (x := 20) dX3_takePlan_7 (by decide) ?_
  refine wa_icmp_lt 18 dX3_takePlan_9 rfl (fun c9 => ?_) (fun c9 => absurd (show nI (pn δ) < nI 20 from nI_lt (by omega) (by decide)) c9)
  refine wa_aload_n dX3_takePlan_18 rfl ?_
  refine c_VQV dX3_takePlan_19 (px_pass hn h) lk_X3_90 rfl (isO_PA _ _ _) rfl (ltS hn) (fun T0 p0 => ?_)
  obtain ⟨p0, t0, ⟨-, p0b⟩, k0⟩ := p0
  obtain rfl := p0b ht1
  refine wa_aload_n dX3_takePlan_22 rfl ?_
  refine wa_iconst (x := 1) dX3_takePlan_23 (by decide) ?_
  refine wa_sipush (x := 9999) dX3_takePlan_24 (by decide) ?_
  refine c_VQI dX3_takePlan_27 (px_takeNumber hn k0 (lo := 1) (ho := 9999) (by decide) (by decide)) lk_X3_100 rfl (isO_PA _ _ _) rfl (ltS hn) (fun w1 S1 r1 => ?_)
  cases hx1 : pNum b N 1 9999 (pos b N (t + 1)) with
  | inl e =>
    obtain ⟨f1, rfl, q1⟩ := RB.l hx1 r1
    refine wa_if_ne 35 dX3_takePlan_30 rfl (fun c30 => absurd rfl c30) (fun c30 => ?_)
    refine wa_iconst (x := 0) dX3_takePlan_33 (by decide) ?_
    exact wa_ireturn dX3_takePlan_34 ⟨Nat.le_refl _, Nat.le_refl _, ⟨_, rfl, rfl⟩, rfl, _, _, rfl, rfl, RB.ofl (by unfold pPlan1; show pb (if pn δ = 20 then _ else _) _ = _; rw [if_neg hp]; show pb (pb (pNum b N 1 9999 (pos b N (t + 1))) _) _ = _; rw [hx1]; rfl) (p0.tr f1) q1⟩
  | inr a1 =>
    obtain ⟨v1, p1⟩ := a1
    obtain ⟨f1, rfl, (e1 : p1 = pos b N (t + 1 + 1)), g1, m1, h1⟩ := RB.r hx1 r1
    subst e1
    refine wa_if_ne 35 dX3_takePlan_30 rfl (fun c30 => ?_) (fun c30 => absurd c30 (by decide))
    refine wa_aload_n dX3_takePlan_35 rfl ?_
    refine g_PA hn 7 dX3_takePlan_36 fl_X3_97 (by decide) (v := .int (nI v1)) (congrArg (fun x => some (Value.int x)) m1) ?_
    refine wa_istore_n dX3_takePlan_39 rfl ?_
    refine wa_aload_n dX3_takePlan_40 rfl ?_
    refine c_VQI dX3_takePlan_41 (px_knownRoomHere hn h1) lk_X3_240 rfl (isO_PA _ _ _) rfl (ltS hn) (fun w2 S2 r2 => ?_)
    obtain ⟨f2, ⟨r, e2, rfl, hr, rfl, hk2⟩ | ⟨e, e2, rfl, q2⟩⟩ := r2
    · have ht2 := h1.nend hk2
      have h6 := h1.gg.1.rn6
      cases e3 : pKind b N (pos b N (t + 1 + 1 + 1)) with
      | inl q =>
        have q3 := pKind_l e3
        subst q3
        refine wa_istore_n dX3_takePlan_44 rfl ?_
        refine wa_iload_n dX3_takePlan_45 rfl ?_
        refine wa_iconst (x := (-1)) dX3_takePlan_46 (by decide) ?_
        refine wa_icmp_ne 52 dX3_takePlan_47 rfl (fun c47 => ?_) (fun c47 => absurd c47 (nI_m1 (b := r) (by omega)))
        refine wa_aload_n dX3_takePlan_52 rfl ?_
        refine c_VQV dX3_takePlan_53 (px_pass hn h1) lk_X3_90 rfl (isO_PA _ _ _) rfl (ltS hn) (fun T1 p1 => ?_)
        obtain ⟨p1, t1, ⟨-, p1b⟩, k1⟩ := p1
        obtain rfl := p1b ht2
        refine wa_aload_n dX3_takePlan_56 rfl ?_
        refine c_VI dX3_takePlan_57 (px_planKindHere hn k1) lk_X3_260 rfl (isO_PA _ _ _) rfl (ltS hn) ?_
        rw [e3]
        refine wa_istore_n dX3_takePlan_60 rfl ?_
        refine wa_iload_n dX3_takePlan_61 rfl ?_
        refine wa_iconst (x := (-1)) dX3_takePlan_62 (by decide) ?_
        refine wa_icmp_ne 72 dX3_takePlan_63 rfl (fun c63 => absurd rfl c63) (fun c63 => ?_)
        refine wa_aload_n dX3_takePlan_66 rfl ?_
        refine wa_iconst (x := 1) dX3_takePlan_67 (by decide) ?_
        refine c_VI dX3_takePlan_68 (px_fail hn k1 1) lk_X3_56 rfl (isO_PA _ _ _) rfl (ltS hn) ?_
        exact wa_ireturn dX3_takePlan_71 ⟨Nat.le_refl _, Nat.le_refl _, ⟨_, rfl, rfl⟩, rfl, _, _, rfl, rfl, RB.ofl (by unfold pPlan1; show pb (if pn δ = 20 then _ else _) _ = _; rw [if_neg hp]; show pb (pb (pNum b N 1 9999 (pos b N (t + 1))) _) _ = _; rw [hx1]; show pb (pb (pRoom b N δ (pos b N (t + 1 + 1))) _) _ = _; rw [e2]; show pb (pb (pKind b N (pos b N (t + 1 + 1 + 1))) _) _ = _; rw [e3]; rfl) (fail_fr ((p0.tr f1).tr p1) _ _) (fail_err _ _ _)⟩
      | inr k =>
        refine wa_istore_n dX3_takePlan_44 rfl ?_
        refine wa_iload_n dX3_takePlan_45 rfl ?_
        refine wa_iconst (x := (-1)) dX3_takePlan_46 (by decide) ?_
        refine wa_icmp_ne 52 dX3_takePlan_47 rfl (fun c47 => ?_) (fun c47 => absurd c47 (nI_m1 (b := r) (by omega)))
        refine wa_aload_n dX3_takePlan_52 rfl ?_
        refine c_VQV dX3_takePlan_53 (px_pass hn h1) lk_X3_90 rfl (isO_PA _ _ _) rfl (ltS hn) (fun T1 p1 => ?_)
        obtain ⟨p1, t1, ⟨-, p1b⟩, k1⟩ := p1
        obtain rfl := p1b ht2
        refine wa_aload_n dX3_takePlan_56 rfl ?_
        refine c_VI dX3_takePlan_57 (px_planKindHere hn k1) lk_X3_260 rfl (isO_PA _ _ _) rfl (ltS hn) ?_
        rw [e3]
        refine wa_istore_n dX3_takePlan_60 rfl ?_
        obtain ⟨hk4, hk5⟩ := pKind_lt e3
        have ht3 := k1.nend hk5
        refine wa_iload_n dX3_takePlan_61 rfl ?_
        refine wa_iconst (x := (-1)) dX3_takePlan_62 (by decide) ?_
        refine wa_icmp_ne 72 dX3_takePlan_63 rfl (fun c63 => ?_) (fun c63 => absurd c63 (nI_m1 (b := k) (by omega)))
        refine wa_aload_n dX3_takePlan_72 rfl ?_
        refine c_VQV dX3_takePlan_73 (px_pass hn k1) lk_X3_90 rfl (isO_PA _ _ _) rfl (ltS hn) (fun T2 p2 => ?_)
        obtain ⟨p2, t2, ⟨-, p2b⟩, k2⟩ := p2
        obtain rfl := p2b ht3
        refine wa_aload_n dX3_takePlan_76 rfl ?_
        refine g_PA (by assumption) 2 dX3_takePlan_77 fl_X3_18 (by decide) rfl ?_
        refine wa_iload_n dX3_takePlan_80 rfl ?_
        refine wa_iload_n dX3_takePlan_81 rfl ?_
        refine wa_iload_n dX3_takePlan_82 rfl ?_
        refine c_VQI dX3_takePlan_83 (hh_putPlan hn k2.hh k2.gg.1.e3 (by omega) (nI v1) (nI r) (nI k)) lk_X3_263 rfl (isH.HO isH_draft _ _ _) rfl (lt_HO isH_draft hn) (fun v4 S4 r4 => ?_)
        obtain ⟨⟨a4, b4⟩, -⟩ := r4
        have h4 := k2.dr b4 a4 ⟨GG_plan k2.gg.1 (by omega) hr (by rw [nI_toInt (by omega)]; omega) (by rw [nI_toInt (by omega)]; omega), ZR_plan k2.gg.2 (by omega)⟩ (rn_cg (ins_lo (by decide) (Or.inl (by decide)))) (fun i hi => plan_hi (j := 71 + 66 * i + 11) (by omega) (by omega))
        refine wa_pop dX3_takePlan_86 rfl ?_
        refine wa_iconst (x := 1) dX3_takePlan_87 (by decide) ?_
        exact wa_ireturn dX3_takePlan_88 ⟨Nat.le_refl _, Nat.le_refl _, ⟨_, rfl, rfl⟩, rfl, _, _, rfl, rfl, RB.ofr (a := (pos b N (t + 1 + 1 + 1 + 1), f_plan (nI v1) (nI r) (nI k) δ, told)) (by unfold pPlan1; show pb (if pn δ = 20 then _ else _) _ = _; rw [if_neg hp]; show pb (pb (pNum b N 1 9999 (pos b N (t + 1))) _) _ = _; rw [hx1]; show pb (pb (pRoom b N δ (pos b N (t + 1 + 1))) _) _ = _; rw [e2]; show pb (pb (pKind b N (pos b N (t + 1 + 1 + 1))) _) _ = _; rw [e3]; rfl) (((p0.tr f1).tr (p1.tr p2)).tr (FRh.ps b4)) ⟨t + 1 + 1 + 1 + 1, rfl, by omega, h4⟩⟩
    · skip
      refine wa_istore_n dX3_takePlan_44 rfl ?_
      refine wa_iload_n dX3_takePlan_45 rfl ?_
      refine wa_iconst (x := (-1)) dX3_takePlan_46 (by decide) ?_
      refine wa_icmp_ne 52 dX3_takePlan_47 rfl (fun c47 => absurd rfl c47) (fun c47 => ?_)
      refine wa_iconst (x := 0) dX3_takePlan_50 (by decide) ?_
      exact wa_ireturn dX3_takePlan_51 ⟨Nat.le_refl _, Nat.le_refl _, ⟨_, rfl, rfl⟩, rfl, _, _, rfl, rfl, RB.ofl (by unfold pPlan1; show pb (if pn δ = 20 then _ else _) _ = _; rw [if_neg hp]; show pb (pb (pNum b N 1 9999 (pos b N (t + 1))) _) _ = _; rw [hx1]; show pb (pb (pRoom b N δ (pos b N (t + 1 + 1))) _) _ = _; rw [e2]; rfl) ((p0.tr f1).tr f2) q2⟩

