/-! ValveRoom$House: plans, startTick. Written by program (wip/whole/gen/m730.py) but for the heads. -/
theorem hh_movePlan {n a fr to : Nat} {S : SS} (hn : 269 ≤ n) (h : isH a) (hf : fr < 20) (ht : to < 20) : AM yX1_movePlan cX1_movePlan 3 none [] 0 0 0 [.ref a, .int (nI fr), .int (nI to)] n (Hp S) (PV n (mvp S a fr to)) := by
  intro has
  change WA RX1 cX1_movePlan 3 [] _ _ 0 0 0 [some (.ref a), some (.int (nI fr)), some (.int (nI to))] [] n _
  refine wa_aload_n dX1_movePlan_0 rfl ?_
  refine g_HO h hn 12 dX1_movePlan_1 fl_X1_17 (by decide) rfl ?_
  refine wa_iload_n dX1_movePlan_4 rfl ?_
  refine wa_aload_n dX1_movePlan_5 rfl ?_
  refine g_HO h hn 12 dX1_movePlan_6 fl_X1_17 (by decide) rfl ?_
  refine wa_iload_n dX1_movePlan_9 rfl ?_
  refine s_iald (j := fr) (isH.pl h (o := 2) (by decide) (by decide)) dX1_movePlan_10 (lt_pl h hn) (ix_nI (by omega)) hf ?_
  refine s_iast (j := to) (isH.pl h (o := 2) (by decide) (by decide)) dX1_movePlan_11 (lt_pl h hn) (ix_nI (by omega)) ht ?_
  refine wa_aload_n dX1_movePlan_12 rfl ?_
  refine g_HO h hn 13 dX1_movePlan_13 fl_X1_21 (by decide) rfl ?_
  refine wa_iload_n dX1_movePlan_16 rfl ?_
  refine wa_aload_n dX1_movePlan_17 rfl ?_
  refine g_HO h hn 13 dX1_movePlan_18 fl_X1_21 (by decide) rfl ?_
  refine wa_iload_n dX1_movePlan_21 rfl ?_
  refine s_iald (j := fr) (isH.pl h (o := 3) (by decide) (by decide)) dX1_movePlan_22 (lt_pl h hn) (ix_nI (by omega)) hf ?_
  rw [show (ss S (a + 2) to (S.1 (a + 2) fr)).1 (a + 3) = S.1 (a + 3) from if_neg (by omega)]
  refine s_iast (j := to) (isH.pl h (o := 3) (by decide) (by decide)) dX1_movePlan_23 (lt_pl h hn) (ix_nI (by omega)) ht ?_
  refine wa_aload_n dX1_movePlan_24 rfl ?_
  refine g_HO h hn 14 dX1_movePlan_25 fl_X1_24 (by decide) rfl ?_
  refine wa_iload_n dX1_movePlan_28 rfl ?_
  refine wa_aload_n dX1_movePlan_29 rfl ?_
  refine g_HO h hn 14 dX1_movePlan_30 fl_X1_24 (by decide) rfl ?_
  refine wa_iload_n dX1_movePlan_33 rfl ?_
  refine s_iald (j := fr) (isH.pl h (o := 4) (by decide) (by decide)) dX1_movePlan_34 (lt_pl h hn) (ix_nI (by omega)) hf ?_
  rw [show (ss (ss S (a + 2) to (S.1 (a + 2) fr)) (a + 3) to (S.1 (a + 3) fr)).1 (a + 4) = S.1 (a + 4) from (if_neg (by omega)).trans (if_neg (by omega))]
  refine s_iast (j := to) (isH.pl h (o := 4) (by decide) (by decide)) dX1_movePlan_35 (lt_pl h hn) (ix_nI (by omega)) ht ?_
  exact wa_return dX1_movePlan_36 ⟨Nat.le_refl _, Nat.le_refl _, rfl, rfl, rfl, congrArg Hp (mvp_e S a fr to)⟩
theorem lp_hrem {Q : ab_Q} {n a f m c : Nat} {S : SS} (hn : 269 ≤ n) (h : isH a) (hc : S.1 a 11 = nI c) (hc20 : c ≤ 20) (hQ : Q (.inl none) 0 0 n (Hp (ss (sh3 S a (shf f m c)) a 11 (nI c - nI m)))) :
    ∀ (r k : Nat), k + r = c → f + m ≤ k → WA RX1 cX1_removePlans 4 [] (ab_rm 1 0 0) Q 0 0 4 [some (.ref a), some (.int (nI f)), some (.int (nI m)), some (.int (nI (k)))] [] n (Hp (sh3 S a (shf f m k))) := by
  intro r
  induction r with
  | zero =>
    intro k hk
    have hk' : c = k := by omega
    intro hfm
    have hk2 : k = c := hk'.symm
    refine wa_iload_n dX1_removePlans_4 rfl ?_
    refine wa_aload_n dX1_removePlans_5 rfl ?_
    refine g_HO h hn 11 dX1_removePlans_6 fl_X1_62 (by decide) rfl ?_
    rw [show (sh3 S a (shf f m k)).1 a 11 = nI c from by rw [sh3_n S _ (by omega) (by omega) (by omega)]; exact hc]
    refine wa_icmp_ge 26 dX1_removePlans_9 rfl (fun c9 => ?_) (fun c9 => absurd (by rw [hk2]; exact Int32.le_refl _) c9)
    refine wa_aload_n dX1_removePlans_26 rfl ?_
    refine wa_dup dX1_removePlans_27 rfl ?_
    refine g_HO h hn 11 dX1_removePlans_28 fl_X1_62 (by decide) rfl ?_
    rw [show (sh3 S a (shf f m k)).1 a 11 = nI c from by rw [sh3_n S _ (by omega) (by omega) (by omega)]; exact hc]
    refine wa_iload_n dX1_removePlans_31 rfl ?_
    refine wa_isub dX1_removePlans_32 ?_
    refine p_HO h hn 11 dX1_removePlans_33 fl_X1_62 (by decide) rfl rfl rfl rfl (fun _ _ _ => rfl) (Nat.le_of_ble_eq_true rfl) ?_
    rw [hk2]
    exact wa_return dX1_removePlans_36 hQ
  | succ r ih =>
    intro k hk
    intro hfm
    refine wa_iload_n dX1_removePlans_4 rfl ?_
    refine wa_aload_n dX1_removePlans_5 rfl ?_
    refine g_HO h hn 11 dX1_removePlans_6 fl_X1_62 (by decide) rfl ?_
    rw [show (sh3 S a (shf f m k)).1 a 11 = nI c from by rw [sh3_n S _ (by omega) (by omega) (by omega)]; exact hc]
    refine wa_icmp_ge 26 dX1_removePlans_9 rfl (fun c9 => absurd c9 (Int32.not_le.mpr (nI_lt (by omega) (by omega)))) (fun c9 => ?_)
    refine wa_aload_n dX1_removePlans_12 rfl ?_
    refine wa_iload_n dX1_removePlans_13 rfl ?_
    refine wa_iload_n dX1_removePlans_14 rfl ?_
    refine wa_iload_n dX1_removePlans_15 rfl ?_
    refine wa_isub dX1_removePlans_16 ?_
    rw [nI_sub (by omega)]
    refine c_VV dX1_removePlans_17 (hh_movePlan (S := sh3 S a (shf f m k)) hn h (by omega) (by omega)) lk_X1_129 rfl (isH.HO h _ _ _) rfl (lt_HO h hn) ?_
    rw [show mvp (sh3 S a (shf f m k)) a k (k - m) = sh3 S a (shf f m (k + 1)) from (sh3_sh3 S a _ _).trans (sh3_cg S a (shf_s hfm))]
    refine wa_iinc (y := 1) dX1_removePlans_20 rfl (by decide) rfl ?_
    refine wa_goto 4 dX1_removePlans_23 rfl ?_
    rw [nI_1 k]
    exact ih (k + 1) (by omega) (by omega)
theorem hh_removePlans {n a f m c : Nat} {S : SS} (hn : 269 ≤ n) (h : isH a) (hc : S.1 a 11 = nI c) (hc20 : c ≤ 20) (hfm : f + m ≤ c) : AM yX1_removePlans cX1_removePlans 4 none [] 1 0 0 [.ref a, .int (nI f), .int (nI m)] n (Hp S) (PV n (ss (sh3 S a (shf f m c)) a 11 (nI c - nI m))) := by
  intro has
  change WA RX1 cX1_removePlans 4 [] _ _ 0 0 0 [some (.ref a), some (.int (nI f)), some (.int (nI m)), none] [] n _
  refine wa_iload_n dX1_removePlans_0 rfl ?_
  refine wa_iload_n dX1_removePlans_1 rfl ?_
  refine wa_iadd dX1_removePlans_2 ?_
  rw [nI_add]
  refine wa_istore_n dX1_removePlans_3 rfl ?_
  refine wa_cg (sh3_id S a (shf_0 f m)) ?_
  exact lp_hrem hn h hc hc20 ⟨Nat.le_refl _, Nat.le_refl _, rfl, rfl, rfl, rfl⟩ (c - (f + m)) (f + m) (by omega) (Nat.le_refl _)
theorem shf_at {f m e k : Nat} {x : Nat → Int32} (h : f ≤ k) (h2 : k + m < e) : shf f m e x k = x (k + m) := if_pos ⟨h, h2⟩
theorem shf_lo {f m e k : Nat} {x : Nat → Int32} (h : ¬ f ≤ k) : shf f m e x k = x k := if_neg (fun z => h z.1)
theorem drop_at {f m k w : Nat} {g : Nat → Int32} (hk : k < pn g - m) (hf : f ≤ k) (hw : w < 3) : f_drop f m g (11 + 3 * k + w) = g (11 + 3 * (k + m) + w) := by
  unfold f_drop
  rw [if_neg (by omega), if_pos (by omega), show 11 + 3 * k + w + 3 * m = 11 + 3 * (k + m) + w by omega]
theorem drop_lt {f m k w : Nat} {g : Nat → Int32} (hf : ¬ f ≤ k) (hw : w < 3) : f_drop f m g (11 + 3 * k + w) = g (11 + 3 * k + w) := by
  unfold f_drop
  rw [if_neg (by omega), if_neg (by omega)]
theorem HH.drop {S : SS} {a f m : Nat} {g : Nat → Int32} {P : Nat → Prop} (h : HH S a g P) (e3 : g 3 = nI (pn g)) (hfm : f + m ≤ pn g) : HH (ss (sh3 S a (shf f m (pn g))) a 11 (nI (pn g) - nI m)) a (f_drop f m g) P := by
  have h20 := h.1.2.2
  have hsub : nI (pn g) - nI m = nI (pn g - m) := nI_sub (by omega)
  have e9 : f_drop f m g 3 = nI (pn g - m) := (congrArg (fun z : Int32 => z - nI m) e3).trans hsub
  have ep : pn (f_drop f m g) = pn g - m := by
    show (f_drop f m g 3).toInt.toNat = _
    rw [e9, nI_toInt (by omega)]; rfl
  refine h.hdr (fun k k1 k2 => ?_) (fun k hk => drop_hi h20 hk) (drop_lo (by decide) (by decide)) (by rw [ep]; omega) (fun j hj hj2 => ?_) (fun k hk => ?_)
  · rw [show (ss (sh3 S a (shf f m (pn g))) a 11 (nI (pn g) - nI m)).1 k = (sh3 S a (shf f m (pn g))).1 k from if_neg (by omega)]
    exact sh3_n S _ (by omega) (by omega) (by omega)
  · rw [ss_1]
    by_cases h11 : j = 11
    · subst h11
      rw [if_pos ⟨rfl, rfl⟩]
      show _ = f_drop f m g 3
      rw [e9, hsub]
    · rw [if_neg (by omega), sh3_n S _ (by omega) (by omega) (by omega)]
      have q : ∀ j, j < 12 → ¬ j = 10 → ¬ j = 11 → ¬ hm j = 3 := by decide
      rw [drop_lo (hm_lt j) (q j hj hj2 h11)]
      exact h.2.1 j hj hj2
  · rw [ep] at hk
    rw [show (ss (sh3 S a (shf f m (pn g))) a 11 (nI (pn g) - nI m)).1 (a + 2) = (sh3 S a (shf f m (pn g))).1 (a + 2) from if_neg (by omega), show (ss (sh3 S a (shf f m (pn g))) a 11 (nI (pn g) - nI m)).1 (a + 3) = (sh3 S a (shf f m (pn g))).1 (a + 3) from if_neg (by omega), show (ss (sh3 S a (shf f m (pn g))) a 11 (nI (pn g) - nI m)).1 (a + 4) = (sh3 S a (shf f m (pn g))).1 (a + 4) from if_neg (by omega)]
    rw [sh3_p S a _ (by decide) (by decide), sh3_p S a _ (by decide) (by decide), sh3_p S a _ (by decide) (by decide)]
    by_cases hf : f ≤ k
    · rw [shf_at hf (by omega), shf_at hf (by omega), shf_at hf (by omega), show 11 + 3 * k = 11 + 3 * k + 0 from rfl, drop_at (w := 0) (by omega) hf (by decide), show 11 + 3 * k + 0 + 1 = 11 + 3 * k + 1 from rfl, drop_at (w := 1) (by omega) hf (by decide), show 11 + 3 * k + 0 + 2 = 11 + 3 * k + 2 from rfl, drop_at (w := 2) (by omega) hf (by decide)]
      exact h.2.2.1 (k + m) (by omega)
    · rw [shf_lo hf, shf_lo hf, shf_lo hf, show 11 + 3 * k = 11 + 3 * k + 0 from rfl, drop_lt (w := 0) hf (by decide), show 11 + 3 * k + 0 + 1 = 11 + 3 * k + 1 from rfl, drop_lt (w := 1) hf (by decide), show 11 + 3 * k + 0 + 2 = 11 + 3 * k + 2 from rfl, drop_lt (w := 2) hf (by decide)]
      exact h.2.2.1 k (by omega)
theorem FRh_drop {S0 S : SS} {a f m c : Nat} {x : Int32} (h : FRh a S0 S) : FRh a S0 (ss (sh3 S a (shf f m c)) a 11 x) := by
  refine ⟨h.1, fun k hk => ?_⟩
  rw [show (ss (sh3 S a (shf f m c)) a 11 x).1 k = (sh3 S a (shf f m c)).1 k from if_neg (by omega), sh3_n S _ (by omega) (by omega) (by omega)]
  exact h.2 k hk
/-- where plans stand: rooms that are there, kinds that are known -/
def PLN (g : Nat → Int32) : Prop := ∀ k, k < pn g → (0 ≤ (g (11 + 3 * k + 1)).toInt ∧ (g (11 + 3 * k + 1)).toInt < rn g) ∧ (0 ≤ (g (11 + 3 * k + 2)).toInt ∧ (g (11 + 3 * k + 2)).toInt < 4)
theorem hh_carryOut {n : Nat} {S0 S : SS} {a r i : Nat} {g : Nat → Int32} {x : Int32} (hn : 269 ≤ n) (h : LV S0 S a r g i) (h0 : 0 ≤ x.toInt) (h4 : x.toInt < 4) : AM yX1_carryOut cX1_carryOut 3 none [] 0 0 0 [.ref a, .ref r, .int x] n (Hp S) (PVe n (fun S' => LV S0 S' a r (f_carry i x g) i)) := by
  obtain ⟨e, -⟩ := nI_of_nn h0
  have h5 : x.toInt.toNat = 0 ∨ x.toInt.toNat = 1 ∨ x.toInt.toNat = 2 ∨ x.toInt.toNat = 3 := by omega
  rw [e]
  rcases h5 with h5 | h5 | h5 | h5 <;> rw [h5]
  · exact hh_carryOut_0 hn h
  · exact hh_carryOut_1 hn h
  · exact hh_carryOut_2 hn h
  · exact hh_carryOut_3 hn h
theorem HH.carry {S S' : SS} {a i : Nat} {g γ : Nat → Int32} {P : Nat → Prop} (x : Int32) (h : HH S a g P) (hγ : ∀ k, k < 71 → γ k = g k) (hp : P i → rst i γ = rst i g) (hl : LV S S' a (a + 5 + 3 * i) (f_carry i x γ) i) : HH S' a (f_carry i x g) P :=
  h.step (fun k hk => (kp_carry g i x).2 k hk) (fun k hk => ((kp_carry γ i x).2 k hk).trans ((hγ k hk).trans ((kp_carry g i x).2 k hk).symm)) (fun q => by rw [← carry_rst, hp q, carry_rst]) (fun j hj q => ⟨q, carry_oth hj x g⟩) hl
theorem lp_hdue {Q : ab_Q} {n a : Nat} {S0 : SS} {G : Nat → Int32} {P : Nat → Prop} (hn : 269 ≤ n) (e3 : G 3 = nI (pn G)) (hPL : PLN G) : ∀ (r k : Nat) (S1 : SS), k + r = pn G → HH S1 a (f_cars G k) P → FRh a S0 S1 → (∀ S', HH S' a (f_cars G (du G r k)) P → FRh a S0 S' → WA RX1 cX1_startTick 2 [] (ab_rm 2 0 0) Q 0 0 60 [some (.ref a), some (.int (nI (du G r k)))] [] n (Hp S')) → WA RX1 cX1_startTick 2 [] (ab_rm 2 0 0) Q 0 0 12 [some (.ref a), some (.int (nI (k)))] [] n (Hp S1) := by
  intro r
  induction r with
  | zero =>
    intro k S1 hk' h hfr hQ
    refine wa_iload_n dX1_startTick_12 rfl ?_
    refine wa_aload_n dX1_startTick_13 rfl ?_
    refine H_hd h hn 11 dX1_startTick_14 fl_X1_62 (by decide) (by decide) (fun _ _ _ => rfl) ?_
    rw [show f_cars G k (hm 11) = nI (pn G) from ((kp_cars G k).2 3 (by decide)).trans e3]
    refine wa_icmp_ge 60 dX1_startTick_17 rfl (fun c17 => ?_) (fun c17 => absurd (by rw [show k = pn G by omega]; exact Int32.le_refl _) c17)
    exact hQ S1 h hfr
  | succ r ih =>
    intro k
    intro S1 hk' h hfr hQ
    have hlt : k < pn G := by omega
    have h20 := h.1.2.2
    rw [pn_cg ((kp_cars G k).2 3 (by decide))] at h20
    have hpl : S1.1 (a + 2) k = G (11 + 3 * k) ∧ S1.1 (a + 3) k = G (11 + 3 * k + 1) ∧ S1.1 (a + 4) k = G (11 + 3 * k + 2) := by
      have := h.2.2.1 k (by rw [pn_cg ((kp_cars G k).2 3 (by decide))]; exact hlt)
      rw [(kp_cars G k).2 _ (by omega), (kp_cars G k).2 _ (by omega), (kp_cars G k).2 _ (by omega)] at this
      exact this
    obtain ⟨⟨r0, r1⟩, q0, q1⟩ := hPL k hlt
    have epr : G (11 + 3 * k + 1) = nI (pr G k) := (nI_of_nn r0).1
    have hpr : pr G k < rn G := by unfold pr; omega
    have h6 : rn G ≤ 6 := by have := h.1.2.1; rw [rn_cg ((kp_cars G k).2 0 (by decide))] at this; exact this
    obtain ⟨γ, g1, g2, hl⟩ := h.lv (i := pr G k) (by rw [rn_cg ((kp_cars G k).2 0 (by decide))]; exact hpr)
    refine wa_iload_n dX1_startTick_12 rfl ?_
    refine wa_aload_n dX1_startTick_13 rfl ?_
    refine H_hd h hn 11 dX1_startTick_14 fl_X1_62 (by decide) (by decide) (fun _ _ _ => rfl) ?_
    rw [show f_cars G k (hm 11) = nI (pn G) from ((kp_cars G k).2 3 (by decide)).trans e3]
    refine wa_icmp_ge 60 dX1_startTick_17 rfl (fun c17 => absurd c17 (Int32.not_le.mpr (nI_lt (by omega) (by omega)))) (fun c17 => ?_)
    refine wa_aload_n dX1_startTick_20 rfl ?_
    refine g_HO h.H hn 12 dX1_startTick_21 fl_X1_17 (by decide) rfl ?_
    refine wa_iload_n dX1_startTick_24 rfl ?_
    refine s_iald (j := k) (isH.pl h.H (o := 2) (by decide) (by decide)) dX1_startTick_25 (lt_pl h.H hn) (ix_nI (by omega)) (by omega) ?_
    rw [show S1.1 (a + 2) k = G (11 + 3 * k) from hpl.1]
    refine wa_aload_n dX1_startTick_26 rfl ?_
    refine H_hd h hn 0 dX1_startTick_27 fl_X1_31 (by decide) (by decide) (fun _ _ _ => rfl) ?_
    rw [show f_cars G k (hm 0) = G 1 from (kp_cars G k).2 1 (by decide)]
    refine wa_icmp_ne 60 dX1_startTick_30 rfl (fun c30 => ?_) (fun c30 => ?_)
    · have ed : du G (r + 1) k = k := if_neg c30
      rw [ed] at hQ
      exact hQ S1 h hfr
    · refine wa_aload_n dX1_startTick_33 rfl ?_
      refine wa_aload_n dX1_startTick_34 rfl ?_
      refine g_HO h.H hn 10 dX1_startTick_35 fl_X1_11 (by decide) rfl ?_
      refine wa_aload_n dX1_startTick_38 rfl ?_
      refine g_HO h.H hn 13 dX1_startTick_39 fl_X1_21 (by decide) rfl ?_
      refine wa_iload_n dX1_startTick_42 rfl ?_
      refine s_iald (j := k) (isH.pl h.H (o := 3) (by decide) (by decide)) dX1_startTick_43 (lt_pl h.H hn) (ix_nI (by omega)) (by omega) ?_
      rw [show S1.1 (a + 3) k = G (11 + 3 * k + 1) from hpl.2.1]
      rw [epr]
      refine L_room h.H hn (ix_nI (by omega)) (by omega) dX1_startTick_44 ?_
      refine wa_aload_n dX1_startTick_45 rfl ?_
      refine g_HO h.H hn 14 dX1_startTick_46 fl_X1_24 (by decide) rfl ?_
      refine wa_iload_n dX1_startTick_49 rfl ?_
      refine s_iald (j := k) (isH.pl h.H (o := 4) (by decide) (by decide)) dX1_startTick_50 (lt_pl h.H hn) (ix_nI (by omega)) (by omega) ?_
      rw [show S1.1 (a + 4) k = G (11 + 3 * k + 2) from hpl.2.2]
      refine c_VQV dX1_startTick_51 (hh_carryOut hn hl q0 q1) lk_X1_140 rfl (isH.HO h.H _ _ _) rfl (lt_HO h.H hn) (fun S2 h2 => ?_)
      refine wa_iinc (y := 1) dX1_startTick_54 rfl (by decide) rfl ?_
      refine wa_goto 12 dX1_startTick_57 rfl ?_
      have ed : du G (r + 1) k = du G r (k + 1) := if_pos c30
      rw [ed] at hQ
      rw [nI_1 k]
      exact ih (k + 1) S2 (by omega) (h.carry _ g1 g2 h2) (hfr.tr (h2.2.2.2.1.h ⟨by omega, by omega⟩)) hQ
theorem hh_startTick {n a : Nat} {S : SS} {g : Nat → Int32} {P : Nat → Prop} (hn : 269 ≤ n) (h : HH S a g P) (e3 : g 3 = nI (pn g)) (hPL : PLN g) : AM yX1_startTick cX1_startTick 2 none [] 2 0 0 [.ref a] n (Hp S) (PVe n (fun S' => HH S' a (f_due (f_time g)) P ∧ FRh a S S')) := by
  intro has
  change WA RX1 cX1_startTick 2 [] _ _ 0 0 0 [some (.ref a), none] [] n _
  refine wa_aload_n dX1_startTick_0 rfl ?_
  refine wa_dup dX1_startTick_1 rfl ?_
  refine H_hd h hn 0 dX1_startTick_2 fl_X1_31 (by decide) (by decide) (fun _ _ _ => rfl) ?_
  refine wa_iconst (x := 1) dX1_startTick_5 (by decide) ?_
  refine wa_iadd dX1_startTick_6 ?_
  refine p_HO h.H hn 0 dX1_startTick_7 fl_X1_31 (by decide) rfl rfl rfl rfl (fun _ _ _ => rfl) (Nat.le_of_ble_eq_true rfl) ?_
  have h1 : HH (ss S a 0 (g (hm 0) + 1)) a (f_time g) P := h.h1 (j := 0) (by decide) _
  have f1 : FRh a S (ss S a 0 (g (hm 0) + 1)) := FRh.rf.ss ⟨Nat.le_refl _, by omega⟩ 0 _
  refine wa_iconst (x := 0) dX1_startTick_10 (by decide) ?_
  refine wa_istore_n dX1_startTick_11 rfl ?_
  have ek : ∀ k, ¬ k = 1 → f_time g k = g k := fun k hk => if_neg hk
  have et : pn (f_time g) = pn g := pn_cg (ek 3 (by decide))
  have hPL2 : PLN (f_time g) := fun k hk => by
    rw [et] at hk
    rw [ek _ (by omega), ek _ (by omega), rn_cg (ek 0 (by decide))]
    exact hPL k hk
  refine lp_hdue hn (by rw [et, ek 3 (by decide)]; exact e3) hPL2 (pn (f_time g)) 0 _ (Nat.zero_add _) h1 f1 (fun S' h' hf' => ?_)
  have ep : pn (f_cars (f_time g) (dueN (f_time g))) = pn (f_time g) := pn_cg ((kp_cars _ _).2 3 (by decide))
  have ec : f_cars (f_time g) (dueN (f_time g)) 3 = nI (pn (f_cars (f_time g) (dueN (f_time g)))) := by
    rw [ep, et, (kp_cars _ _).2 3 (by decide), ek 3 (by decide)]; exact e3
  refine wa_aload_n dX1_startTick_60 rfl ?_
  refine wa_iconst (x := 0) dX1_startTick_61 (by decide) ?_
  refine wa_iload_n dX1_startTick_62 rfl ?_
  refine c_VV dX1_startTick_63 (hh_removePlans (S := S') hn h'.H (f := 0) (m := dueN (f_time g)) (c := pn (f_cars (f_time g) (dueN (f_time g)))) (by rw [h'.n (j := 11) (by decide) (by decide)]; exact ec) h'.1.2.2 (by rw [ep]; have := dueN_le (f_time g); omega)) lk_X1_144 rfl (isH.HO h'.H _ _ _) rfl (lt_HO h'.H hn) ?_
  exact wa_return dX1_startTick_66 ⟨Nat.le_refl _, Nat.le_refl _, rfl, rfl, rfl, _, rfl, HH.drop (show HH S' a (f_cars (f_time g) (dueN (f_time g))) P from h') ec (by rw [ep]; have := dueN_le (f_time g); omega), FRh_drop hf'⟩

