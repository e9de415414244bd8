/-! ValveRoom$House: putPlan. Written by program (wip/whole/gen/m755.py) but for the heads. -/
/-- plans from k on moved one up -/
def sup (k c : Nat) (x : Nat → Int32) : Nat → Int32 := fun j => if k < j ∧ j ≤ c then x (j - 1) else x j
theorem sup_0 (c : Nat) (x : Nat → Int32) : sup c c x = x := by
  funext j
  exact if_neg (by omega)
theorem sup_s {k c : Nat} (h : k < c) (x : Nat → Int32) : upd (sup (k + 1) c x) (k + 1) (sup (k + 1) c x k) = sup k c x := by
  funext j
  unfold upd sup
  by_cases hj : j = k + 1
  · rw [if_pos hj, if_neg (by omega), if_pos (by omega), hj]; rfl
  · rw [if_neg hj]
    by_cases h1 : k + 1 < j ∧ j ≤ c
    · rw [if_pos h1, if_pos (by omega)]
    · rw [if_neg h1, if_neg (by omega)]
theorem sup_lo {k c j : Nat} {x : Nat → Int32} (h : j ≤ k) : sup k c x j = x j := if_neg (by omega)
theorem sup_hi {k c j : Nat} {x : Nat → Int32} (h : k < j) (h2 : j ≤ c) : sup k c x j = x (j - 1) := if_pos ⟨h, h2⟩
theorem lp_hput {Q : ab_Q} {n a c : Nat} {S : SS} {g : Nat → Int32} {P : Nat → Prop} (t r0 kk : Int32) (hn : 269 ≤ n) (h : HH S a g P) (hc : c = pn g) (hc20 : c < 20) : ∀ (k : Nat), k ≤ c → WA RX1 cX1_putPlan 5 [] (ab_rm 1 0 0) Q 0 0 40 [some (.ref a), some (.int t), some (.int r0), some (.int kk), some (.int (nI (ipos g t k)))] [] n (Hp (sh3 S a (sup (ipos g t k) c))) → WA RX1 cX1_putPlan 5 [] (ab_rm 1 0 0) Q 0 0 6 [some (.ref a), some (.int t), some (.int r0), some (.int kk), some (.int (nI (k)))] [] n (Hp (sh3 S a (sup k c))) := by
  intro k
  induction k with
  | zero =>
    intro hk hQ
    refine wa_iload dX1_putPlan_6 rfl ?_
    refine wa_if_le 40 dX1_putPlan_8 rfl (fun c8 => ?_) (fun c8 => absurd (Int32.le_refl _) c8)
    exact hQ
  | succ k ih =>
    intro hk hQ
    refine wa_iload dX1_putPlan_6 rfl ?_
    refine wa_if_le 40 dX1_putPlan_8 rfl (fun c8 => absurd c8 (Int32.not_le.mpr (nI_lt (a := 0) (by omega) (by omega)))) (fun c8 => ?_)
    refine wa_aload_n dX1_putPlan_11 rfl ?_
    refine g_HO h.H hn 12 dX1_putPlan_12 fl_X1_17 (by decide) rfl ?_
    refine wa_iload dX1_putPlan_15 rfl ?_
    refine wa_iconst (x := 1) dX1_putPlan_17 (by decide) ?_
    refine wa_isub dX1_putPlan_18 ?_
    rw [nI_s1]
    refine s_iald (j := k) (isH.pl h.H (o := 2) (by decide) (by decide)) dX1_putPlan_19 (lt_pl h.H hn) (ix_nI (by omega)) (by omega) ?_
    rw [show (sh3 S a (sup (k + 1) c)).1 (a + 2) k = g (11 + 3 * k) from by rw [sh3_p S a _ (by decide) (by decide), sup_lo (by omega)]; exact (h.2.2.1 k (by omega)).1]
    refine wa_iload_n dX1_putPlan_20 rfl ?_
    refine wa_icmp_le 40 dX1_putPlan_21 rfl (fun c21 => ?_) (fun c21 => ?_)
    · have e9 : ipos g t (k + 1) = k + 1 := if_neg (Int32.not_lt.mpr c21)
      rw [e9] at hQ
      exact hQ
    · refine wa_aload_n dX1_putPlan_24 rfl ?_
      refine wa_iload dX1_putPlan_25 rfl ?_
      refine wa_iconst (x := 1) dX1_putPlan_27 (by decide) ?_
      refine wa_isub dX1_putPlan_28 ?_
      rw [nI_s1]
      refine wa_iload dX1_putPlan_29 rfl ?_
      refine c_VV dX1_putPlan_31 (hh_movePlan (S := sh3 S a (sup (k + 1) c)) hn h.H (fr := k) (to := k + 1) (by omega) (by omega)) lk_X1_129 rfl (isH.HO h.H _ _ _) rfl (lt_HO h.H hn) ?_
      rw [show mvp (sh3 S a (sup (k + 1) c)) a k (k + 1) = sh3 S a (sup k c) from (sh3_sh3 S a _ _).trans (sh3_cg S a (sup_s (by omega)))]
      refine wa_iinc (y := (-1)) dX1_putPlan_34 rfl (by decide) rfl ?_
      rw [show nI (k + 1) + (-1) = nI k from (Int32.sub_eq_add_neg (nI (k + 1)) 1).symm.trans (nI_s1 k)]
      refine wa_goto 6 dX1_putPlan_37 rfl ?_
      have e9 : ipos g t (k + 1) = ipos g t k := if_pos (Int32.not_le.mp c21)
      rw [e9] at hQ
      exact ih (by omega) hQ
theorem HH.ins {S : SS} {a K : Nat} {g : Nat → Int32} {P : Nat → Prop} (t r0 kk : Int32) (h : HH S a g P) (e3 : g 3 = nI (pn g)) (hc : pn g < 20) (hK : K ≤ pn g) : HH (ss (ss (ss (ss (sh3 S a (sup K (pn g))) (a + 2) K t) (a + 3) K r0) (a + 4) K kk) a 11 (nI (pn g + 1))) a (f_ins K t r0 kk g) P := by
  have hlo : ∀ j, j < 11 → ¬ j = 3 → f_ins K t r0 kk g j = g j := fun j hj h3 => by
    unfold f_ins
    rw [if_neg h3, if_neg (by omega), if_neg (by omega), if_neg (by omega), if_neg (by omega)]
  have f3 : f_ins K t r0 kk g 3 = nI (pn g + 1) := (congrArg (fun z : Int32 => z + 1) e3).trans (nI_1 _)
  have ep : pn (f_ins K t r0 kk g) = pn g + 1 := by
    show (f_ins K t r0 kk g 3).toInt.toNat = _
    rw [f3, nI_toInt (by omega)]; rfl
  refine h.hdr (fun k k1 k2 => (if_neg (by omega)).trans ((if_neg (by omega)).trans ((if_neg (by omega)).trans ((if_neg (by omega)).trans (sh3_n S _ (by omega) (by omega) (by omega)))))) (fun k hk => ?_) (hlo 0 (by decide) (by decide)) (by rw [ep]; omega) (fun j hj hj2 => ?_) (fun k hk => ?_)
  · unfold f_ins
    rw [if_neg (by omega), if_neg (by omega), if_neg (by omega), if_neg (by omega), if_neg (by omega)]
  · rw [ss_1]
    by_cases h11 : j = 11
    · subst h11
      rw [if_pos ⟨rfl, rfl⟩]
      exact f3.symm
    · rw [if_neg (by omega)]
      have q : ∀ j, j < 12 → ¬ j = 10 → ¬ j = 11 → ¬ hm j = 3 := by decide
      rw [hlo _ (hm_lt j) (q j hj hj2 h11)]
      exact (congrFun ((if_neg (by omega)).trans ((if_neg (by omega)).trans ((if_neg (by omega)).trans (sh3_n S _ (by omega) (by omega) (by omega))))) j).trans (h.2.1 j hj hj2)
  · rw [ep] at hk
    have c2 : (ss (ss (ss (ss (sh3 S a (sup K (pn g))) (a + 2) K t) (a + 3) K r0) (a + 4) K kk) a 11 (nI (pn g + 1))).1 (a + 2) k = if k = K then t else sup K (pn g) (S.1 (a + 2)) k := by
      rw [ss_1, if_neg (by omega), ss_1, if_neg (by omega), ss_1, if_neg (by omega), ss_1, sh3_p S a _ (by decide) (by decide)]
      by_cases hk2 : k = K
      · rw [if_pos ⟨rfl, hk2⟩, if_pos hk2]
      · rw [if_neg (fun z => hk2 z.2), if_neg hk2]
    have c3 : (ss (ss (ss (ss (sh3 S a (sup K (pn g))) (a + 2) K t) (a + 3) K r0) (a + 4) K kk) a 11 (nI (pn g + 1))).1 (a + 3) k = if k = K then r0 else sup K (pn g) (S.1 (a + 3)) k := by
      rw [ss_1, if_neg (by omega), ss_1, if_neg (by omega), ss_1]
      by_cases hk2 : k = K
      · rw [if_pos ⟨rfl, hk2⟩, if_pos hk2]
      · rw [if_neg (fun z => hk2 z.2), if_neg hk2, ss_1, if_neg (by omega), sh3_p S a _ (by decide) (by decide)]
    have c4 : (ss (ss (ss (ss (sh3 S a (sup K (pn g))) (a + 2) K t) (a + 3) K r0) (a + 4) K kk) a 11 (nI (pn g + 1))).1 (a + 4) k = if k = K then kk else sup K (pn g) (S.1 (a + 4)) k := by
      rw [ss_1, if_neg (by omega), ss_1]
      by_cases hk2 : k = K
      · rw [if_pos ⟨rfl, hk2⟩, if_pos hk2]
      · rw [if_neg (fun z => hk2 z.2), if_neg hk2, ss_1, if_neg (by omega), ss_1, if_neg (by omega), sh3_p S a _ (by decide) (by decide)]
    rw [c2, c3, c4]
    have i0 : f_ins K t r0 kk g (11 + 3 * k) = if k = K then t else if K < k then g (11 + 3 * (k - 1)) else g (11 + 3 * k) := by
      unfold f_ins
      rw [if_neg (by omega), if_neg (by omega), if_neg (by omega)]
      by_cases hk2 : k = K
      · rw [if_pos (by omega), if_pos hk2]
      · rw [if_neg (by omega), if_neg hk2]
        by_cases hlt : K < k
        · rw [if_pos (by omega), if_pos hlt, show 11 + 3 * k - 3 = 11 + 3 * (k - 1) by omega]
        · rw [if_neg (by omega), if_neg hlt]
    have i1 : f_ins K t r0 kk g (11 + 3 * k + 1) = if k = K then r0 else if K < k then g (11 + 3 * (k - 1) + 1) else g (11 + 3 * k + 1) := by
      unfold f_ins
      rw [if_neg (by omega), if_neg (by omega)]
      by_cases hk2 : k = K
      · rw [if_pos (by omega), if_pos hk2]
      · rw [if_neg (by omega), if_neg (by omega), if_neg hk2]
        by_cases hlt : K < k
        · rw [if_pos (by omega), if_pos hlt, show 11 + 3 * k + 1 - 3 = 11 + 3 * (k - 1) + 1 by omega]
        · rw [if_neg (by omega), if_neg hlt]
    have i2 : f_ins K t r0 kk g (11 + 3 * k + 2) = if k = K then kk else if K < k then g (11 + 3 * (k - 1) + 2) else g (11 + 3 * k + 2) := by
      unfold f_ins
      rw [if_neg (by omega)]
      by_cases hk2 : k = K
      · rw [if_pos (by omega), if_pos hk2]
      · rw [if_neg (by omega), if_neg (by omega), if_neg (by omega), if_neg hk2]
        by_cases hlt : K < k
        · rw [if_pos (by omega), if_pos hlt, show 11 + 3 * k + 2 - 3 = 11 + 3 * (k - 1) + 2 by omega]
        · rw [if_neg (by omega), if_neg hlt]
    rw [i0, i1, i2]
    by_cases hk2 : k = K
    · rw [if_pos hk2, if_pos hk2, if_pos hk2, if_pos hk2, if_pos hk2, if_pos hk2]; exact ⟨rfl, rfl, rfl⟩
    · rw [if_neg hk2, if_neg hk2, if_neg hk2, if_neg hk2, if_neg hk2, if_neg hk2]
      by_cases hlt : K < k
      · rw [sup_hi hlt (by omega), sup_hi hlt (by omega), sup_hi hlt (by omega), if_pos hlt, if_pos hlt, if_pos hlt]
        exact h.2.2.1 (k - 1) (by omega)
      · rw [sup_lo (by omega), sup_lo (by omega), sup_lo (by omega), if_neg hlt, if_neg hlt, if_neg hlt]
        exact h.2.2.1 k (by omega)
theorem FRh_ins {S0 S : SS} {a K c : Nat} {t r0 kk x : Int32} (h : FRh a S0 S) : FRh a S0 (ss (ss (ss (ss (sh3 S a (sup K c)) (a + 2) K t) (a + 3) K r0) (a + 4) K kk) a 11 x) :=
  ⟨h.1, fun k hk => ((if_neg (by omega)).trans ((if_neg (by omega)).trans ((if_neg (by omega)).trans ((if_neg (by omega)).trans (sh3_n S _ (by omega) (by omega) (by omega)))))).trans (h.2 k hk)⟩
theorem hput_tail {Q : ab_Q} {n a K : Nat} {S : SS} {g : Nat → Int32} {P : Nat → Prop} (t r0 kk : Int32) (hn : 269 ≤ n) (h : HH S a g P) (e3 : g 3 = nI (pn g)) (hc : pn g < 20) (hK : K ≤ pn g) (hQ : ∀ S', HH S' a (f_ins K t r0 kk g) P → FRh a S S' → Q (.inl (some (.int (nI K)))) 0 0 n (Hp S')) : WA RX1 cX1_putPlan 5 [] (ab_rm 1 0 0) Q 0 0 40 [some (.ref a), some (.int t), some (.int r0), some (.int kk), some (.int (nI (K)))] [] n (Hp (sh3 S a (sup K (pn g)))) := by
  refine wa_aload_n dX1_putPlan_40 rfl ?_
  refine g_HO h.H hn 12 dX1_putPlan_41 fl_X1_17 (by decide) rfl ?_
  refine wa_iload dX1_putPlan_44 rfl ?_
  refine wa_iload_n dX1_putPlan_46 rfl ?_
  refine s_iast (j := K) (isH.pl h.H (o := 2) (by decide) (by decide)) dX1_putPlan_47 (lt_pl h.H hn) (ix_nI (by omega)) (by omega) ?_
  refine wa_aload_n dX1_putPlan_48 rfl ?_
  refine g_HO h.H hn 13 dX1_putPlan_49 fl_X1_21 (by decide) rfl ?_
  refine wa_iload dX1_putPlan_52 rfl ?_
  refine wa_iload_n dX1_putPlan_54 rfl ?_
  refine s_iast (j := K) (isH.pl h.H (o := 3) (by decide) (by decide)) dX1_putPlan_55 (lt_pl h.H hn) (ix_nI (by omega)) (by omega) ?_
  refine wa_aload_n dX1_putPlan_56 rfl ?_
  refine g_HO h.H hn 14 dX1_putPlan_57 fl_X1_24 (by decide) rfl ?_
  refine wa_iload dX1_putPlan_60 rfl ?_
  refine wa_iload_n dX1_putPlan_62 rfl ?_
  refine s_iast (j := K) (isH.pl h.H (o := 4) (by decide) (by decide)) dX1_putPlan_63 (lt_pl h.H hn) (ix_nI (by omega)) (by omega) ?_
  refine wa_aload_n dX1_putPlan_64 rfl ?_
  refine wa_dup dX1_putPlan_65 rfl ?_
  refine g_HO h.H hn 11 dX1_putPlan_66 fl_X1_62 (by decide) rfl ?_
  rw [show (ss (ss (ss (sh3 S a (sup K (pn g))) (a + 2) K t) (a + 3) K r0) (a + 4) K kk).1 a 11 = nI (pn g) from (congrFun ((if_neg (by omega)).trans ((if_neg (by omega)).trans ((if_neg (by omega)).trans (sh3_n S _ (by omega) (by omega) (by omega))))) 11).trans ((h.n (j := 11) (by decide) (by decide)).trans e3)]
  refine wa_iconst (x := 1) dX1_putPlan_69 (by decide) ?_
  refine wa_iadd dX1_putPlan_70 ?_
  rw [nI_1]
  refine p_HO h.H hn 11 dX1_putPlan_71 fl_X1_62 (by decide) rfl rfl rfl rfl (fun _ _ _ => rfl) (Nat.le_of_ble_eq_true rfl) ?_
  refine wa_iload dX1_putPlan_74 rfl ?_
  exact wa_ireturn dX1_putPlan_76 (hQ _ (h.ins t r0 kk e3 hc hK) (FRh_ins FRh.rf))
theorem hh_putPlan {n a : Nat} {S : SS} {g : Nat → Int32} {P : Nat → Prop} (hn : 269 ≤ n) (h : HH S a g P) (e3 : g 3 = nI (pn g)) (hc : pn g < 20) (t r0 kk : Int32) : AM yX1_putPlan cX1_putPlan 5 (some .int) [] 1 0 0 [.ref a, .int t, .int r0, .int kk] n (Hp S) (PIe n (fun v S' => (HH S' a (f_plan t r0 kk g) P ∧ FRh a S S') ∧ v = nI (ipos g t (pn g)))) := by
  intro has
  change WA RX1 cX1_putPlan 5 [] _ _ 0 0 0 [some (.ref a), some (.int t), some (.int r0), some (.int kk), none] [] n _
  refine wa_aload_n dX1_putPlan_0 rfl ?_
  refine g_HO h.H hn 11 dX1_putPlan_1 fl_X1_62 (by decide) rfl ?_
  rw [show S.1 a 11 = nI (pn g) from (h.n (j := 11) (by decide) (by decide)).trans e3]
  refine wa_istore dX1_putPlan_4 rfl ?_
  refine wa_cg (sh3_id S a (sup_0 (pn g))) ?_
  exact lp_hput t r0 kk hn h rfl hc (pn g) (Nat.le_refl _) (hput_tail t r0 kk hn h e3 hc (ipos_le g t (pn g)) (fun S' h' f' => ⟨Nat.le_refl _, Nat.le_refl _, ⟨_, rfl, rfl⟩, rfl, _, S', rfl, rfl, ⟨h', f'⟩, rfl⟩))

