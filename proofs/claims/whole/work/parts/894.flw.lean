/-! meanTemp and warmth: the class's two, and the law's two cases, over plain facts on floats (FLW). Written by program (wip/whole/gen/m894.py). -/
/-- the plain facts on floats -/
def FLW : Prop := (∀ x y : Int32, (x + y).toInt = x.toInt + y.toInt → FP.dadd (FP.i2d x) (FP.i2d y) = FP.i2d (x + y)) ∧ FP.dconst0 = FP.i2d 0 ∧ (∀ x : Int32, vf_n64 (FP.i2d x)) ∧
  (∀ x y : Int32, y ≠ 0 → vf_n64 (FP.ddiv (FP.i2d x) (FP.i2d y)) ∧ FP.dcmp (FP.ddiv (FP.i2d x) (FP.i2d y)) (FP.ddiv (FP.i2d x) (FP.i2d y)) = some .eq) ∧ FP.dcmp FP.dconst0 FP.dconst0 = some .eq ∧
  (∀ x t : Int32, 0 < t.toInt → t.toInt ≤ 110000 → FP.fmul 1120403456 (FP.i2f t) = FP.i2f (100 * t) ∧ vf_n32 (FP.i2f (100 * t)) ∧ vf_n32 (FP.fdiv (FP.i2f x) (FP.i2f (100 * t))) ∧ vf_n64 (FP.f2d (FP.fdiv (FP.i2f x) (FP.i2f (100 * t)))) ∧ FP.dcmp (FP.f2d (FP.fdiv (FP.i2f x) (FP.i2f (100 * t)))) (FP.f2d (FP.fdiv (FP.i2f x) (FP.i2f (100 * t)))) = some .eq) ∧
  vf_n64 (FP.f2d FP.fconst0) ∧ FP.dcmp (FP.f2d FP.fconst0) (FP.f2d FP.fconst0) = some .eq
theorem kf_X6_254 : Cond.constantFloat RX6 254 1120403456 ∈ ab_big := ab_big_mem 1456 (by decide +kernel) (by decide)
theorem GG.tmp {T : Int} {g : Nat → Int32} {i : Nat} (h : GG T g) (hT : T ≤ 300000) (hi : i < rn g) : -15000450 ≤ (of g i 0).toInt ∧ (of g i 0).toInt ≤ 15000450 := by
  have h1 := ((h.2.2.2.2 i hi).2).1
  omega
theorem GG.sum0 {T : Int} {g : Nat → Int32} (h : GG T g) (hT : T ≤ 300000) : ∀ k, k ≤ rn g → -(15000450 * (k : Int)) ≤ (sumN g 0 k).toInt ∧ (sumN g 0 k).toInt ≤ 15000450 * (k : Int) := by
  intro k
  induction k with
  | zero => intro _; show _ ≤ (0 : Int32).toInt ∧ (0 : Int32).toInt ≤ _; rw [Int32.toInt_zero]; omega
  | succ k ih =>
    intro hk
    have h6 := h.rn6
    have h1 := ih (by omega)
    have h2 := h.tmp hT (i := k) (by omega)
    show _ ≤ (sumN g 0 k + of g k 0).toInt ∧ (sumN g 0 k + of g k 0).toInt ≤ _
    rw [i_add (by omega) (by omega)]
    omega
theorem GG.sum1 {T : Int} {g : Nat → Int32} (h : GG T g) (hT : T ≤ 300000) {k : Nat} (hk : k < rn g) : (sumN g 0 k + of g k 0).toInt = (sumN g 0 k).toInt + (of g k 0).toInt := by
  have h6 := h.rn6
  have h1 := h.sum0 hT k (by omega)
  have h2 := h.tmp hT (i := k) hk
  exact i_add (by omega) (by omega)
theorem lpv_mean (F : FLW) {Q : ab_Q} {n : Nat} {S : SS} {g : Nat → Int32} {T : Int} (hn : 279 ≤ n) (h : HH S 34 g (fun _ => True)) (hg : GG T g) (hT : T ≤ 300000) (hc : g 0 ≠ 0) (hQ : Q (.inl (some (.double (FP.ddiv (FP.i2d (sumN g 0 (rn g))) (FP.i2d (nI (rn g))))))) 0 0 n (Hp S)) :
    ∀ (r k : Nat), k + r = rn g → WA RX6 cX6_meanTemp 4 [] (ab_rm 0 0 0) Q 0 0 16 [some (.ref 0), some (.double (FP.i2d (sumN g 0 k))), none, some (.int (nI k))] [] n (Hp S) := by
  have h6 := hg.rn6
  intro r
  induction r with
  | zero =>
    intro k hk
    have hk2 : k = rn g := hk
    refine wa_iload_n dX6_meanTemp_16 rfl ?_
    refine wa_aload_n dX6_meanTemp_17 rfl ?_
    refine g_VR (by assumption) 4 dX6_meanTemp_18 fl_X6_26 (by decide) rfl ?_
    refine H_hd h hn 9 dX6_meanTemp_21 fl_X6_89 (by decide) (by decide) (fun _ _ _ => rfl) ?_
    rw [show g (hm 9) = nI (rn g) from hg.e0]
    refine wa_icmp_ge 49 dX6_meanTemp_24 rfl (fun c18 => ?_) (fun c18 => absurd (by rw [hk2]; exact Int32.le_refl _) c18)
    refine wa_dload_n dX6_meanTemp_49 rfl ?_
    refine wa_aload_n dX6_meanTemp_50 rfl ?_
    refine g_VR (by assumption) 4 dX6_meanTemp_51 fl_X6_26 (by decide) rfl ?_
    refine H_hd h hn 9 dX6_meanTemp_54 fl_X6_89 (by decide) (by decide) (fun _ _ _ => rfl) ?_
    rw [show g (hm 9) = nI (rn g) from hg.e0]
    refine wa_i2d dX6_meanTemp_57 ?_
    refine wa_ddiv dX6_meanTemp_58 (F.2.2.2.1 _ _ (by rw [← hg.e0]; exact hc)).1 ?_
    exact wa_dreturn dX6_meanTemp_59 (by rw [hk2]; exact hQ)
  | succ r ih =>
    intro k hk
    have hl := h.lvT (i := k) (by omega)
    refine wa_iload_n dX6_meanTemp_16 rfl ?_
    refine wa_aload_n dX6_meanTemp_17 rfl ?_
    refine g_VR (by assumption) 4 dX6_meanTemp_18 fl_X6_26 (by decide) rfl ?_
    refine H_hd h hn 9 dX6_meanTemp_21 fl_X6_89 (by decide) (by decide) (fun _ _ _ => rfl) ?_
    rw [show g (hm 9) = nI (rn g) from hg.e0]
    refine wa_icmp_ge 49 dX6_meanTemp_24 rfl (fun c18 => absurd c18 (Int32.not_le.mpr (nI_lt (by omega) (by omega)))) (fun c18 => ?_)
    refine wa_dload_n dX6_meanTemp_27 rfl ?_
    refine wa_aload_n dX6_meanTemp_28 rfl ?_
    refine g_VR (by assumption) 4 dX6_meanTemp_29 fl_X6_26 (by decide) rfl ?_
    refine g_HO h.H hn 10 dX6_meanTemp_32 fl_X6_231 (by decide) rfl ?_
    refine wa_iload_n dX6_meanTemp_35 rfl ?_
    refine L_room h.H hn (ix_nI (by omega)) (by omega) dX6_meanTemp_36 ?_
    refine L_n hl hn 0 dX6_meanTemp_37 fl_X6_138 (by decide) (fun _ _ _ => rfl) ?_
    refine wa_i2d dX6_meanTemp_40 ?_
    have e : FP.dadd (FP.i2d (sumN g 0 k)) (FP.i2d (of g k 0)) = FP.i2d (sumN g 0 (k + 1)) := F.1 _ _ (hg.sum1 hT (by omega))
    refine wa_dadd dX6_meanTemp_41 (by rw [e]; exact F.2.2.1 _) ?_
    rw [e]
    refine wa_dstore_n dX6_meanTemp_42 rfl ?_
    refine wa_iinc (y := 1) dX6_meanTemp_43 rfl (by decide) rfl ?_
    refine wa_goto 16 dX6_meanTemp_46 rfl ?_
    rw [nI_1 k]
    exact ih (k + 1) (by omega)
theorem vr_meanTemp (F : FLW) {n : Nat} {S : SS} {g : Nat → Int32} {T : Int} (hn : 279 ≤ n) (h : HH S 34 g (fun _ => True)) (hg : GG T g) (hT : T ≤ 300000) : AM yX6_meanTemp cX6_meanTemp 4 (some .double) [] 0 0 0 [.ref 0] n (Hp S) (PA (.double (mean g)) n S) := by
  intro has
  change WA RX6 cX6_meanTemp 4 [] _ _ 0 0 0 [some (.ref 0), none, none, none] [] n _
  have e0 := hg.e0
  refine wa_aload_n dX6_meanTemp_0 rfl ?_
  refine g_VR (by assumption) 4 dX6_meanTemp_1 fl_X6_26 (by decide) rfl ?_
  refine H_hd h hn 9 dX6_meanTemp_4 fl_X6_89 (by decide) (by decide) (fun _ _ _ => rfl) ?_
  rw [show g (hm 9) = g 0 from rfl]
  refine wa_if_ne 12 dX6_meanTemp_7 rfl (fun c7 => ?_) (fun c7 => ?_)
  · refine wa_dconst0 dX6_meanTemp_12 ?_
    rw [F.2.1]
    refine wa_dstore_n dX6_meanTemp_13 rfl ?_
    refine wa_iconst (x := 0) dX6_meanTemp_14 (by decide) ?_
    refine wa_istore_n dX6_meanTemp_15 rfl ?_
    exact lpv_mean F hn h hg hT c7 ⟨Nat.le_refl _, Nat.le_refl _, rfl, rdv (by unfold mean; rw [if_neg c7, ← e0]), rfl, rfl⟩ (rn g) 0 (Nat.zero_add _)
  · refine wa_dconst0 dX6_meanTemp_10 ?_
    exact wa_dreturn dX6_meanTemp_11 ⟨Nat.le_refl _, Nat.le_refl _, rfl, rdv (by unfold mean; rw [if_pos c7]), rfl, rfl⟩
theorem vr_warmth_1 {n : Nat} {S : SS} {g : Nat → Int32} {T : Int} (hn : 279 ≤ n) (h : HH S 34 g (fun _ => True)) (hg : GG T g) (r : Int32) (h1 : ¬ ((0 ≤ r ∧ r < g 0))) : AM yX6_warmth cX6_warmth 3 (some .float) [] 1 1 6 [.ref 0, .int r] n (Hp S) (PX ab_xI n S) := by
  intro has
  change WA RX6 cX6_warmth 3 [] _ _ 0 0 0 [some (.ref 0), some (.int r), none] [] n _
  refine wa_aload_n dX6_warmth_0 rfl ?_
  refine wa_iload_n dX6_warmth_1 rfl ?_
  exact c_VX dX6_warmth_2 (vr_roomAtX hn h h1) lk_X6_134 rfl (isO_VR _ _ _) rfl (ltS hn) (wt_out ⟨Nat.le_refl _, Nat.le_refl _, trivial, rfl, rfl, rfl⟩ (by decide))
theorem vr_warmth_0 (F : FLW) {n i : Nat} {S : SS} {g : Nat → Int32} {T : Int} (hn : 279 ≤ n) (h : HH S 34 g (fun _ => True)) (hg : GG T g) (hT : T ≤ 110000) (hi : i < rn g) : AM yX6_warmth cX6_warmth 3 (some .float) [] 1 0 0 [.ref 0, .int (nI i)] n (Hp S) (PA (.float (wmth g i)) n S) := by
  intro has
  change WA RX6 cX6_warmth 3 [] _ _ 0 0 0 [some (.ref 0), some (.int (nI i)), none] [] n _
  have hi6 : i < 6 := by have := hg.rn6; omega
  have hk := rk_l hg hi
  have hl := h.lvT hi
  refine wa_aload_n dX6_warmth_0 rfl ?_
  refine wa_iload_n dX6_warmth_1 rfl ?_
  refine c_VA dX6_warmth_2 (vr_roomAt hn h hi6 hk.2) lk_X6_134 rfl (isO_VR _ _ _) rfl (ltS hn) ?_
  refine wa_astore_n dX6_warmth_5 rfl ?_
  refine wa_aload_n dX6_warmth_6 rfl ?_
  refine g_VR (by assumption) 4 dX6_warmth_7 fl_X6_26 (by decide) rfl ?_
  refine H_hd h hn 0 dX6_warmth_10 fl_X6_100 (by decide) (by decide) (fun _ _ _ => rfl) ?_
  rw [show g (hm 0) = g 1 from rfl]
  refine wa_if_ne 18 dX6_warmth_13 rfl (fun c7 => ?_) (fun c7 => ?_)
  · have ht0 := hg.t0
    have htT := hg.tT
    have hne : ¬ (g 1).toInt = 0 := fun z => c7 (Int32.toInt_inj.mp (z.trans Int32.toInt_zero.symm))
    obtain ⟨f1, f2, f3, -⟩ := F.2.2.2.2.2.1 (of g i 10) (g 1) (by omega) (by omega)
    refine wa_aload_n dX6_warmth_18 rfl ?_
    refine L_n hl hn 10 dX6_warmth_19 fl_X6_171 (by decide) (fun _ _ _ => rfl) ?_
    refine wa_i2f dX6_warmth_22 ?_
    refine wa_ldcf dX6_warmth_23 kf_X6_254 ?_
    refine wa_aload_n dX6_warmth_25 rfl ?_
    refine g_VR (by assumption) 4 dX6_warmth_26 fl_X6_26 (by decide) rfl ?_
    refine H_hd h hn 0 dX6_warmth_29 fl_X6_100 (by decide) (by decide) (fun _ _ _ => rfl) ?_
    rw [show g (hm 0) = g 1 from rfl]
    refine wa_i2f dX6_warmth_32 ?_
    refine wa_fmul dX6_warmth_33 (by rw [f1]; exact f2) ?_
    rw [f1]
    refine wa_fdiv dX6_warmth_34 f3 ?_
    exact wa_freturn dX6_warmth_35 ⟨Nat.le_refl _, Nat.le_refl _, rfl, rfv (by unfold wmth; rw [if_neg c7]), rfl, rfl⟩
  · refine wa_fconst0 dX6_warmth_16 ?_
    exact wa_freturn dX6_warmth_17 ⟨Nat.le_refl _, Nat.le_refl _, rfl, rfv (by unfold wmth; rw [if_pos c7]), rfl, rfl⟩
/-- the two values: no NaN, and equal to themselves -/
theorem mean_ok (F : FLW) (g : Nat → Int32) : FP.dcmp (mean g) (mean g) = some .eq := by
  unfold mean
  by_cases h : g 0 = 0
  · rw [if_pos h]; exact F.2.2.2.2.1
  · rw [if_neg h]; exact (F.2.2.2.1 _ _ h).2
theorem wmth_ok (F : FLW) {T : Int} {g : Nat → Int32} (hg : GG T g) (hT : T ≤ 110000) (i : Nat) : vf_n64 (FP.f2d (wmth g i)) ∧ FP.dcmp (FP.f2d (wmth g i)) (FP.f2d (wmth g i)) = some .eq := by
  unfold wmth
  by_cases h : g 1 = 0
  · rw [if_pos h]; exact F.2.2.2.2.2.2
  · rw [if_neg h]
    have ht0 := hg.t0
    have htT := hg.tT
    have hne : ¬ (g 1).toInt = 0 := fun z => h (Int32.toInt_inj.mp (z.trans Int32.toInt_zero.symm))
    obtain ⟨-, -, -, f4, f5⟩ := F.2.2.2.2.2.1 (of g i 10) (g 1) (by omega) (by omega)
    exact ⟨f4, f5⟩
theorem mm_meanTempZ {n : Nat} {S : SS} {T : Int} (hn : 279 ≤ n) (hm : mr S = 268) (hV : VG T (S.1 268)) (h0 : S.1 268 0 = 0) : AM yX7_meanTemp cX7_meanTemp 1 (some .double) [] 2 0 0 [.ref 267] n (Hp S) (PA (.double (mean (S.1 268))) n (th S 0)) := by
  intro has
  change WA RX7 cX7_meanTemp 1 [] _ _ 0 0 0 [some (.ref 267)] [] n _
  have hVr : VG T (row S) := by rw [row_net hm]; exact hV
  have e1 : row (th S 0) = S.1 268 := (row_th S 0).trans (row_net hm)
  refine wa_aload_n dX7_meanTemp_0 rfl ?_
  refine wa_iconst (x := 0) dX7_meanTemp_1 (by decide) ?_
  refine p_MO (by assumption) 0 dX7_meanTemp_2 fl_X7_3 (by decide) rfl rfl rfl rfl (fun _ _ _ => rfl) (Nat.le_of_ble_eq_true rfl) ?_
  show WA _ _ _ _ _ _ _ _ _ _ _ _ (Hp (th S 0))
  refine wa_aload_n dX7_meanTemp_5 rfl ?_
  refine c_VI dX7_meanTemp_6 (mm_rooms (S := th S 0) hn) lk_X7_56 rfl (isO_MO _ _ _) rfl (ltS (by assumption)) ?_
  rw [show (th S 0).1 (mr (th S 0)) 0 = S.1 268 0 from congrFun e1 0]
  refine wa_if_ne 16 dX7_meanTemp_9 rfl (fun c9 => absurd h0 c9) (fun c9 => ?_)
  refine wa_dconst0 dX7_meanTemp_12 ?_
  refine wa_goto 28 dX7_meanTemp_13 rfl ?_
  exact wa_dreturn dX7_meanTemp_28 ⟨Nat.le_refl _, Nat.le_refl _, rfl, rdv (by unfold mean; rw [if_pos c9]), rfl, rfl⟩
theorem mm_meanTemp0 (F : FLW) {n : Nat} {S : SS} {T : Int} (hn : 279 ≤ n) (hm : mr S = 268) (hV : VG T (S.1 268)) : AM yX7_meanTemp cX7_meanTemp 1 (some .double) [] 2 0 0 [.ref 267] n (Hp S) (PA (.double (mean (S.1 268))) n (th S 0)) := by
  by_cases h0 : S.1 268 0 = 0
  · exact mm_meanTempZ hn hm hV h0
  · exact mm_meanTemp hn hm hV (F.2.2.2.1 _ _ h0).1
theorem mm_warmth0 (F : FLW) {n : Nat} {S : SS} {T : Int} (hn : 279 ≤ n) (hm : mr S = 268) (hg : GG T (S.1 268)) (hT : T ≤ 110000) {i : Nat} (hi : i < 6) (h1 : rk S (nI i)) : AM yX7_warmth cX7_warmth 2 (some .float) [] 2 0 0 [.ref 267, .int (nI i)] n (Hp S) (PA (.float (wmth (S.1 268) i)) n (th S 0)) :=
  mm_warmth_0 hn hm hg.1 hi (fun c7 => by
    have ht0 := hg.t0
    have htT := hg.tT
    have hne : ¬ (S.1 268 1).toInt = 0 := fun z => c7 (Int32.toInt_inj.mp (z.trans Int32.toInt_zero.symm))
    exact (F.2.2.2.2.2.1 (of (S.1 268) i 10) (S.1 268 1) (by omega) (by omega)).2.2.1) h1
theorem cmpv_eq : Op.cmpValue (some .eq) .l = 0 := by decide

theorem lc_meanTemp (F : FLW) {L : Nat} {xs : Nat → Int32} {Q : ab_Q} {k z n i c : Nat} {a b c1 d : Option Value} {S : SS} {T : Int} (hi : i + 6 ≤ L) (hL : L ≤ 3072) (hI : INV T n c S) (hT0 : 0 ≤ T) (hT : T ≤ 110000) (hk : k + 80 ≤ 601024) (hz : z + 13300 ≤ 7293034) (hnb : n + 80 ≤ 900000) (hQ : LK L xs Q T n k z i) : LX L xs Q k z 1751 (lsL i a b c1 d) [] n (Hp S) := by
  have hn := hI.n
  have hh := hI.hh
  have hg := hI.gg
  have hm := hI.m
  have hcb := hI.1.2.1
  have e9 : ab_CB = 1000000 := rfl
  have hc0 : ∀ x y : Int32, y ≠ 0 → vf_n64 (FP.ddiv (FP.i2d x) (FP.i2d y)) := fun x y hy => (F.2.2.2.1 x y hy).1
  refine wa_aload_n dL_law_1751 rfl ?_
  refine c_VA dL_law_1752 (vr_meanTemp F hn hh hg (by omega)) lk_L_257 rfl (isO_VR _ _ _) rfl (ltS (by omega)) ?_ (hR := fitL (by decide) (by decide) (by omega) (by omega))
  refine wa_dstore dL_law_1755 rfl ?_
  refine wa_aload_n dL_law_1757 rfl ?_
  refine c_VA dL_law_1758 (mm_meanTemp0 F hn hm hg.1) lk_L_261 rfl (isO_MO _ _ _) rfl (ltS (by omega)) ?_ (hR := fitL (by decide) (by decide) (by omega) (by omega))
  refine wa_dstore dL_law_1761 rfl ?_
  refine wa_dload dL_law_1763 rfl ?_
  refine wa_dload dL_law_1765 rfl ?_
  refine wa_dcmp dL_law_1767 ?_
  rw [mean_ok F, cmpv_eq]
  refine wa_if_eq 1789 dL_law_1768 rfl (fun _ => ?_) (fun z => absurd rfl z)
  refine wa_goto 3100 dL_law_1789 rfl ?_
  exact hQ _ _ _ _ _ _ _ _ _ (by omega) (by omega) (by omega) (by omega) ((hI.thI 0).mono (by omega) (Nat.le_refl _) hcb)

theorem lc_warmth (F : FLW) {L : Nat} {xs : Nat → Int32} {Q : ab_Q} {k z n i c : Nat} {a b c1 d : Option Value} {S : SS} {T : Int} (hi : i + 6 ≤ L) (hL : L ≤ 3072) (hI : INV T n c S) (hT0 : 0 ≤ T) (hT : T ≤ 110000) (hk : k + 80 ≤ 601024) (hz : z + 13300 ≤ 7293034) (hnb : n + 80 ≤ 900000) (hQ : LK L xs Q T n k z i) : LX L xs Q k z 1792 (lsL i a b c1 d) [] n (Hp S) := by
  have hn := hI.n
  have hh := hI.hh
  have hg := hI.gg
  have hm := hI.m
  have hcb := hI.1.2.1
  have e9 : ab_CB = 1000000 := rfl
  by_cases h1 : 0 ≤ xs (i + 1) ∧ xs (i + 1) < S.1 268 0
  · skip
    obtain ⟨r, hr, hr6, e1⟩ := hI.rnI h1
    have h1' : 0 ≤ nI r ∧ nI r < S.1 268 0 := by rw [← e1]; exact h1
    have hw := wmth_ok F hg hT r
    have hq : ∀ (r' : ab_R) (n' : Nat) (h' : ab_H) (v : UInt32), PA (.float (wmth (S.1 268) r)) n S r' n' h' → r' = .inl (some (.float v)) → vf_n64 (FP.f2d v) := fun r' n' h' v q e => by
      cases e.symm.trans q.1
      exact hw.1
    refine wa_aload_n dL_law_1792 rfl ?_
    refine l_rd (q := 1) (x := nI r) e1 dL_law_1793 dL_law_1794 dL_law_1796 dL_law_1797 dL_law_1798 (by decide) (by omega) hL ?_
    refine wa_aload dL_law_1799 rfl ?_
    refine wa_callW (As := [.ref 0, .int (nI r), .ref 278]) dL_law_1801 lk_L_262 (wl_warmth_0 (P := fun v' n' S' => n' = n ∧ v' = wmth (S.1 268) r ∧ S' = S) hn (vr_warmth_0 F hn hh hg hT hr) (fun r n' h' q => ⟨_, _, q.1, q.2.2, q.2.1, rfl, rfl⟩) hq) rfl (by exact Nat.le_of_ble_eq_true rfl) (fitL (by decide) (by decide) (by omega) (by omega)) (by exact Nat.le_of_ble_eq_true rfl) (fun ro n' h' q _ => ?_) (fun E n' h' q _ => by cases q.1)
    obtain ⟨q1, v, S', q2, -, q3, q4, q5⟩ := q
    cases q1
    rw [q2, q3, q4, q5]
    have hI0 := hI.sdI (FP.f2d (wmth (S.1 268) r))
    refine wa_istore dL_law_1804 rfl ?_
    refine wa_aload_n dL_law_1806 rfl ?_
    refine l_rd (q := 1) (x := nI r) e1 dL_law_1807 dL_law_1808 dL_law_1810 dL_law_1811 dL_law_1812 (by decide) (by omega) hL ?_
    refine c_VA dL_law_1813 (mm_warmth0 F hn hI0.m hI0.gg hT hr6 (rk_of hI0.m h1')) lk_L_265 rfl (isO_MO _ _ _) rfl (ltS (by omega)) ?_ (hR := (fitL (by decide) (by decide) (by omega) (by omega)))
    rw [show wmth ((sd S (FP.f2d (wmth (S.1 268) r))).1 268) r = wmth (S.1 268) r from rfl]
    refine wa_fstore dL_law_1816 rfl ?_
    refine wa_aload_n dL_law_1818 rfl ?_
    refine c_VI dL_law_1819 (mm_thrown (by omega)) lk_L_159 rfl (isO_MO _ _ _) rfl (ltS (by omega)) ?_ (hR := fitL (by decide) (by decide) (by omega) (by omega))
    rw [th_0 _ _]
    refine wa_iload dL_law_1822 rfl ?_
    refine wa_icmp_eq 1829 dL_law_1824 rfl (fun _ => ?_) (fun z => absurd rfl z)
    refine wa_iload dL_law_1829 rfl ?_
    refine wa_if_ne 1867 dL_law_1831 rfl (fun z => absurd rfl z) (fun _ => ?_)
    refine wa_aload dL_law_1834 rfl ?_
    refine wa_iconst (x := 0) dL_law_1836 (by decide) ?_
    refine wa_dald (len := 1) (j := 0) (f := fun _ => FP.f2d (wmth (S.1 268) r)) dL_law_1837 (Or.inl (ltS (by omega))) rfl rfl (by decide) ?_
    refine wa_fload dL_law_1838 rfl ?_
    refine wa_f2d dL_law_1840 hw.1 ?_
    refine wa_dcmp dL_law_1841 ?_
    rw [hw.2, cmpv_eq]
    refine wa_if_eq 1867 dL_law_1842 rfl (fun _ => ?_) (fun z => absurd rfl z)
    refine wa_goto 3100 dL_law_1867 rfl ?_
    exact hQ _ _ _ _ _ _ _ _ _ (by omega) (by omega) (by omega) (by omega) ((hI0.thI 0).mono (by omega) (Nat.le_refl _) hcb)
  · skip
    refine wa_aload_n dL_law_1792 rfl ?_
    refine l_rd (q := 1) (x := xs (i + 1)) rfl dL_law_1793 dL_law_1794 dL_law_1796 dL_law_1797 dL_law_1798 (by decide) (by omega) hL ?_
    refine wa_aload dL_law_1799 rfl ?_
    refine wa_callW (As := [.ref 0, .int (xs (i + 1)), .ref 278]) dL_law_1801 lk_L_262 (wl_warmth_1 hn (vr_warmth_1 hn hh hg _ h1)) rfl (by exact Nat.le_of_ble_eq_true rfl) (fitL (by decide) (by decide) (by omega) (by omega)) (by exact Nat.le_of_ble_eq_true rfl) (fun ro n' h' q _ => ?_) (fun E n' h' q _ => by cases q.1)
    obtain ⟨q1, q2, q3⟩ := q
    rw [q2, q3]
    cases q1
    refine wa_istore dL_law_1804 rfl ?_
    refine wa_aload_n dL_law_1806 rfl ?_
    refine l_rd (q := 1) (x := xs (i + 1)) rfl dL_law_1807 dL_law_1808 dL_law_1810 dL_law_1811 dL_law_1812 (by decide) (by omega) hL ?_
    refine c_VA dL_law_1813 (mm_warmth_1 hn hm hg.1 _ (rk_no hm h1)) lk_L_265 rfl (isO_MO _ _ _) rfl (ltS (by omega)) ?_ (hR := (fitL (by decide) (by decide) (by omega) (by omega)))
    refine wa_fstore dL_law_1816 rfl ?_
    refine wa_aload_n dL_law_1818 rfl ?_
    refine c_VI dL_law_1819 (mm_thrown (by omega)) lk_L_159 rfl (isO_MO _ _ _) rfl (ltS (by omega)) ?_ (hR := fitL (by decide) (by decide) (by omega) (by omega))
    rw [th_0 _ _]
    refine wa_iload dL_law_1822 rfl ?_
    refine wa_icmp_eq 1829 dL_law_1824 rfl (fun _ => ?_) (fun z => absurd rfl z)
    refine wa_iload dL_law_1829 rfl ?_
    refine wa_if_ne 1867 dL_law_1831 rfl (fun _ => ?_) (fun z => absurd z (by decide))
    refine wa_goto 3100 dL_law_1867 rfl ?_
    exact hQ _ _ _ _ _ _ _ _ _ (by omega) (by omega) (by omega) (by omega) ((hI.thI 1).mono (by omega) (Nat.le_refl _) hcb)
