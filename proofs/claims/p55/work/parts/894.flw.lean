/-! meanTemp and warmth: the class's two, and the law's two cases, over plain facts on floats (FLW). Written by program (wip/whole/gen/m894.py). -/
/-- the plain facts on floats -/
def FLW : Prop := (∀ x t : Int32, 0 < t.toInt → t.toInt ≤ 110000 → FP.fmul 1120403456 (FP.i2f t) = FP.i2f (100 * t) ∧ vf_n32 (FP.i2f (100 * t)) ∧ vf_n32 (FP.fdiv (FP.i2f x) (FP.i2f (100 * t))) ∧ FP.fcmp (FP.fdiv (FP.i2f x) (FP.i2f (100 * t))) (FP.fdiv (FP.i2f x) (FP.i2f (100 * t))) = some .eq) ∧ FP.fcmp FP.fconst0 FP.fconst0 = some .eq
theorem kf_X6_254 : Cond.constantFloat RX6 254 1120403456 ∈ ab_big := ab_big_mem 1229 (by decide +kernel) (by decide)
theorem vr_warmth_0 (F : FLW) {n i : Nat} {S : SS} {g : Nat → Int32} {T : Int} (hn : 269 ≤ n) (h : HH S 34 g (fun _ => True)) (hg : GG T g) (hT : T ≤ 110000) (hi : i < rn g) : AM yX6_warmth cX6_warmth 3 (some .float) [] 1 0 0 [.ref 0, .int (nI i)] n (Hp S) (PA (.float (wmth g i)) n S) := by
  intro has
  change WA RX6 cX6_warmth 3 [] _ _ 0 0 0 [some (.ref 0), some (.int (nI i)), none] [] n _
  have hi6 : i < 6 := by have := hg.rn6; omega
  have hk := rk_l hg hi
  have hl := h.lvT hi
  refine wa_aload_n dX6_warmth_0 rfl ?_
  refine wa_iload_n dX6_warmth_1 rfl ?_
  refine c_VA dX6_warmth_2 (vr_roomAt hn h hi6 hk.2) lk_X6_134 rfl (isO_VR _ _ _) rfl (ltS hn) ?_
  refine wa_astore_n dX6_warmth_5 rfl ?_
  refine wa_aload_n dX6_warmth_6 rfl ?_
  refine g_VR (by assumption) 4 dX6_warmth_7 fl_X6_26 (by decide) rfl ?_
  refine H_hd h hn 0 dX6_warmth_10 fl_X6_100 (by decide) (by decide) (fun _ _ _ => rfl) ?_
  rw [show g (hm 0) = g 1 from rfl]
  refine wa_if_ne 18 dX6_warmth_13 rfl (fun c7 => ?_) (fun c7 => ?_)
  · have ht0 := hg.t0
    have htT := hg.tT
    have hne : ¬ (g 1).toInt = 0 := fun z => c7 (Int32.toInt_inj.mp (z.trans Int32.toInt_zero.symm))
    obtain ⟨f1, f2, f3, -⟩ := F.1 (of g i 10) (g 1) (by omega) (by omega)
    refine wa_aload_n dX6_warmth_18 rfl ?_
    refine L_n hl hn 10 dX6_warmth_19 fl_X6_171 (by decide) (fun _ _ _ => rfl) ?_
    refine wa_i2f dX6_warmth_22 ?_
    refine wa_ldcf dX6_warmth_23 kf_X6_254 ?_
    refine wa_aload_n dX6_warmth_25 rfl ?_
    refine g_VR (by assumption) 4 dX6_warmth_26 fl_X6_26 (by decide) rfl ?_
    refine H_hd h hn 0 dX6_warmth_29 fl_X6_100 (by decide) (by decide) (fun _ _ _ => rfl) ?_
    rw [show g (hm 0) = g 1 from rfl]
    refine wa_i2f dX6_warmth_32 ?_
    refine wa_fmul dX6_warmth_33 (by rw [f1]; exact f2) ?_
    rw [f1]
    refine wa_fdiv dX6_warmth_34 f3 ?_
    exact wa_freturn dX6_warmth_35 ⟨Nat.le_refl _, Nat.le_refl _, rfl, rfv (by unfold wmth; rw [if_neg c7]), rfl, rfl⟩
  · refine wa_fconst0 dX6_warmth_16 ?_
    exact wa_freturn dX6_warmth_17 ⟨Nat.le_refl _, Nat.le_refl _, rfl, rfv (by unfold wmth; rw [if_pos c7]), rfl, rfl⟩
