/-! CONSTRUCTORS of ValveRoom and of the reference. Written by program (wip/whole/gen/m866.py) but for the heads. -/
def dVR : List Value := [.null, .int 0, .int 0, .null, .null, .null, .null, .int 0, .null, .null]
/-- a ValveRoom's cells, i past Houses and j kept ones made -/
def vF (b i j : Nat) : Nat → va_E := fun o =>
  if o = 0 then .inr (0, [.ref (b + 1), .int 0, .int (-1), .ref (b + 32), .ref (b + 34), .ref (b + 57), .ref (b + 80), .int 0, .ref (b + 81), .ref (b + 82)])
  else if o < 32 then pF (b + 1) (o - 1) else if o < 34 then sF (b + 32) (o - 32) else if o < 57 then hF (b + 34) (o - 34) else if o < 80 then hF (b + 57) (o - 57)
  else if o = 80 then .inl (6, 6, .inr (.inr (.inr (.inr (fun q => if q < i then some (b + (83 + 23 * q)) else none)))))
  else if o = 81 then .inl (6, 2, .inr (.inr (.inr (.inr (fun q => if q < j then some (b + (221 + 23 * q)) else none)))))
  else if o = 82 then .inl (2, 2, .inl (fun _ => 0)) else hF (b + (83 + 23 * ((o - 83) / 23))) ((o - 83) % 23)
theorem va_up_go {b c i : Nat} : va_up (fun q => if q < i then some (b + (c + 23 * q)) else none) i (some (b + (c + 23 * i))) = fun q => if q < i + 1 then some (b + (c + 23 * q)) else none := by
  funext q
  unfold va_up
  dsimp only
  by_cases h : q = i
  · rw [if_pos h, if_pos (by omega), h]
  · rw [if_neg h]
    by_cases h2 : q < i
    · rw [if_pos h2, if_pos (by omega)]
    · rw [if_neg h2, if_neg (by omega)]
theorem vF_past {b i o : Nat} (ho : o < 83 + 23 * i + 23) : ab_up (jn (83 + 23 * i) (vF b i 0) (hF (b + (83 + 23 * i)))) 80 (.inl (6, 6, .inr (.inr (.inr (.inr (va_up (fun q => if q < i then some (b + (83 + 23 * q)) else none) i (some (b + (83 + 23 * i))))))))) o = vF b (i + 1) 0 o := by
  by_cases h1 : o = 80
  · subst h1
    rw [up_at, va_up_go]
    rfl
  · rw [ab_up_n _ _ h1]
    by_cases h2 : o < 83 + 23 * i
    · rw [jn_l h2]
      unfold vF
      rw [if_neg h1, if_neg h1]
    · rw [jn_r (by omega)]
      unfold vF
      rw [if_neg (by omega), if_neg (by omega), if_neg (by omega), if_neg (by omega), if_neg (by omega), if_neg (by omega), if_neg (by omega), if_neg (by omega), show (o - 83) / 23 = i by omega, show (o - 83) % 23 = o - (83 + 23 * i) by omega]
theorem vF_kept {b i o : Nat} (ho : o < 221 + 23 * i + 23) : ab_up (jn (221 + 23 * i) (vF b 6 i) (hF (b + (221 + 23 * i)))) 81 (.inl (6, 2, .inr (.inr (.inr (.inr (va_up (fun q => if q < i then some (b + (221 + 23 * q)) else none) i (some (b + (221 + 23 * i))))))))) o = vF b 6 (i + 1) o := by
  by_cases h1 : o = 81
  · subst h1
    rw [up_at, va_up_go]
    rfl
  · rw [ab_up_n _ _ h1]
    by_cases h2 : o < 221 + 23 * i
    · rw [jn_l h2]
      unfold vF
      rw [if_neg h1, if_neg h1]
    · rw [jn_r (by omega)]
      unfold vF
      rw [if_neg (by omega), if_neg (by omega), if_neg (by omega), if_neg (by omega), if_neg (by omega), if_neg (by omega), if_neg (by omega), if_neg (by omega), show (o - 83) / 23 = 6 + i by omega, show (o - 83) % 23 = o - (221 + 23 * i) by omega, show 83 + 23 * (6 + i) = 221 + 23 * i by omega]
theorem lp_past {Q : ab_Q} {b : Nat} {h : ab_H} (hn : b + 267 < ab_CB) : ∀ (r k : Nat), k + r = 6 → (WA RX6 cX6_init 2 [] (ab_ric 3 266 8495) Q (82 + 23 * 6) (4535 + 495 * 6) 107 [some (.ref b), some (.int (nI 6))] [] (b + (83 + 23 * 6)) (blk h b (83 + 23 * 6) (vF b 6 0))) → WA RX6 cX6_init 2 [] (ab_ric 3 266 8495) Q (82 + 23 * k) (4535 + 495 * k) 79 [some (.ref b), some (.int (nI k))] [] (b + (83 + 23 * k)) (blk h b (83 + 23 * k) (vF b k 0)) := by
  intro r
  induction r with
  | zero =>
    intro k hk hQ
    obtain rfl : k = 6 := by omega
    refine wa_iload_n dX6_init_79 rfl ?_
    refine wa_aload_n dX6_init_80 rfl ?_
    refine wa_getf (v := .ref (b + 80)) 6 dX6_init_81 fl_X6_33 cl_VR.1 cl_VR.2.1 (by decide) (Or.inl (by omega)) (blk_at0 (by omega)) rfl ?_
    refine wa_alen (t := 6) (len := 6) dX6_init_84 (by decide) (Or.inl (by omega)) (blk_at (by omega)) rfl ?_
    exact wa_icmp_ge 107 dX6_init_85 rfl (fun _ => hQ) (fun z => absurd (by decide) z)
  | succ r ih =>
    intro k hk hQ
    refine wa_iload_n dX6_init_79 rfl ?_
    refine wa_aload_n dX6_init_80 rfl ?_
    refine wa_getf (v := .ref (b + 80)) 6 dX6_init_81 fl_X6_33 cl_VR.1 cl_VR.2.1 (by decide) (Or.inl (by omega)) (blk_at0 (by omega)) rfl ?_
    refine wa_alen (t := 6) (len := 6) dX6_init_84 (by decide) (Or.inl (by omega)) (blk_at (by omega)) rfl ?_
    refine wa_icmp_ge 107 dX6_init_85 rfl (fun z => absurd z (nI_ge (by omega) (by omega))) (fun _ => ?_)
    refine wa_aload_n dX6_init_88 rfl ?_
    refine wa_getf (v := .ref (b + 80)) 6 dX6_init_89 fl_X6_33 cl_VR.1 cl_VR.2.1 (by decide) (Or.inl (by omega)) (blk_at0 (by omega)) rfl ?_
    refine wa_iload_n dX6_init_92 rfl ?_
    refine wa_new (fs := dHO) tyX1 dX6_init_93 wk_X6_23 wi_X1 wz_X1 cl_HO.1 cl_HO.2.1 cl_HO.2.2.1 (by decide) (fun _ => rfl) (wf_d rfl) (by omega) (by simp [ab_ric]; omega) (by simp [ab_ric]; omega) ?_
    refine wa_dup dX6_init_96 rfl ?_
    refine wa_callIc (As := []) dX6_init_97 lk_X6_25 (ct_house (by omega) (ab_up_s _ _ _)) (fun E n' h' q => by cases q.1) rfl rfl (by exact Nat.le_of_ble_eq_true rfl) (by unfold ab_fitc ab_ric; refine ⟨?_, ?_, ?_, ?_⟩ <;> simp <;> omega) (by exact Nat.le_of_ble_eq_true rfl) (fun ro n' h' q _ => ?_)
    obtain ⟨q1, q2, q3⟩ := q
    rw [q2, q3]
    cases q1
    rw [blk_call (by decide), Nat.add_assoc b]
    refine wa_aastH (len := 6) (j := k) (f := fun q => if q < k then some (b + (83 + 23 * q)) else none) (fs := eHO (b + (83 + 23 * k) + 1) (b + (83 + 23 * k) + 2) (b + (83 + 23 * k) + 3) (b + (83 + 23 * k) + 4)) dX6_init_100 (by omega) ((blk_at (o := 80) (by omega)).trans ((jn_l (by omega)).trans rfl)) (nI_toInt (by omega)) (by omega) (by omega) ((blk_at (by omega)).trans ((jn_r (Nat.le_refl _)).trans (by rw [Nat.sub_self]; rfl))) ?_
    rw [blk_up (o := 80) (by omega), blk_cg (fun o ho => vF_past ho)]
    refine wa_iinc (y := 1) dX6_init_101 rfl (by decide) rfl ?_
    refine wa_goto 79 dX6_init_104 rfl ?_
    rw [nI_1 k, show 82 + 23 * k + 1 + 22 = 82 + 23 * (k + 1) by omega, show 4535 + 495 * k + 15 + 480 = 4535 + 495 * (k + 1) by omega, show 83 + 23 * k + 23 = 83 + 23 * (k + 1) by omega]
    exact ih (k + 1) (by omega) hQ
theorem lp_kept {Q : ab_Q} {b : Nat} {h : ab_H} (hn : b + 267 < ab_CB) : ∀ (r k : Nat), k + r = 2 → (WA RX6 cX6_init 2 [] (ab_ric 3 266 8495) Q (220 + 23 * 2) (7505 + 495 * 2) 137 [some (.ref b), some (.int (nI 2))] [] (b + (221 + 23 * 2)) (blk h b (221 + 23 * 2) (vF b 6 2))) → WA RX6 cX6_init 2 [] (ab_ric 3 266 8495) Q (220 + 23 * k) (7505 + 495 * k) 109 [some (.ref b), some (.int (nI k))] [] (b + (221 + 23 * k)) (blk h b (221 + 23 * k) (vF b 6 k)) := by
  intro r
  induction r with
  | zero =>
    intro k hk hQ
    obtain rfl : k = 2 := by omega
    refine wa_iload_n dX6_init_109 rfl ?_
    refine wa_aload_n dX6_init_110 rfl ?_
    refine wa_getf (v := .ref (b + 81)) 8 dX6_init_111 fl_X6_37 cl_VR.1 cl_VR.2.1 (by decide) (Or.inl (by omega)) (blk_at0 (by omega)) rfl ?_
    refine wa_alen (t := 6) (len := 2) dX6_init_114 (by decide) (Or.inl (by omega)) (blk_at (by omega)) rfl ?_
    exact wa_icmp_ge 137 dX6_init_115 rfl (fun _ => hQ) (fun z => absurd (by decide) z)
  | succ r ih =>
    intro k hk hQ
    refine wa_iload_n dX6_init_109 rfl ?_
    refine wa_aload_n dX6_init_110 rfl ?_
    refine wa_getf (v := .ref (b + 81)) 8 dX6_init_111 fl_X6_37 cl_VR.1 cl_VR.2.1 (by decide) (Or.inl (by omega)) (blk_at0 (by omega)) rfl ?_
    refine wa_alen (t := 6) (len := 2) dX6_init_114 (by decide) (Or.inl (by omega)) (blk_at (by omega)) rfl ?_
    refine wa_icmp_ge 137 dX6_init_115 rfl (fun z => absurd z (nI_ge (by omega) (by omega))) (fun _ => ?_)
    refine wa_aload_n dX6_init_118 rfl ?_
    refine wa_getf (v := .ref (b + 81)) 8 dX6_init_119 fl_X6_37 cl_VR.1 cl_VR.2.1 (by decide) (Or.inl (by omega)) (blk_at0 (by omega)) rfl ?_
    refine wa_iload_n dX6_init_122 rfl ?_
    refine wa_new (fs := dHO) tyX1 dX6_init_123 wk_X6_23 wi_X1 wz_X1 cl_HO.1 cl_HO.2.1 cl_HO.2.2.1 (by decide) (fun _ => rfl) (wf_d rfl) (by omega) (by simp [ab_ric]; omega) (by simp [ab_ric]; omega) ?_
    refine wa_dup dX6_init_126 rfl ?_
    refine wa_callIc (As := []) dX6_init_127 lk_X6_25 (ct_house (by omega) (ab_up_s _ _ _)) (fun E n' h' q => by cases q.1) rfl rfl (by exact Nat.le_of_ble_eq_true rfl) (by unfold ab_fitc ab_ric; refine ⟨?_, ?_, ?_, ?_⟩ <;> simp <;> omega) (by exact Nat.le_of_ble_eq_true rfl) (fun ro n' h' q _ => ?_)
    obtain ⟨q1, q2, q3⟩ := q
    rw [q2, q3]
    cases q1
    rw [blk_call (by decide), Nat.add_assoc b]
    refine wa_aastH (len := 2) (j := k) (f := fun q => if q < k then some (b + (221 + 23 * q)) else none) (fs := eHO (b + (221 + 23 * k) + 1) (b + (221 + 23 * k) + 2) (b + (221 + 23 * k) + 3) (b + (221 + 23 * k) + 4)) dX6_init_130 (by omega) ((blk_at (o := 81) (by omega)).trans ((jn_l (by omega)).trans rfl)) (nI_toInt (by omega)) (by omega) (by omega) ((blk_at (by omega)).trans ((jn_r (Nat.le_refl _)).trans (by rw [Nat.sub_self]; rfl))) ?_
    rw [blk_up (o := 81) (by omega), blk_cg (fun o ho => vF_kept ho)]
    refine wa_iinc (y := 1) dX6_init_131 rfl (by decide) rfl ?_
    refine wa_goto 109 dX6_init_134 rfl ?_
    rw [nI_1 k, show 220 + 23 * k + 1 + 22 = 220 + 23 * (k + 1) by omega, show 7505 + 495 * k + 15 + 480 = 7505 + 495 * (k + 1) by omega, show 221 + 23 * k + 23 = 221 + 23 * (k + 1) by omega]
    exact ih (k + 1) (by omega) hQ
theorem ct_vr {b : Nat} {h : ab_H} (hn : b + 267 < ab_CB) (hbe : h b = .inr (0, dVR)) : AMi yX6_init cX6_init 2 none [] 3 266 8495 [.ref b] (b + 1) h (fun r n' h' => r = .inl none ∧ n' = b + 267 ∧ h' = blk h b 267 (vF b 6 2)) := by
  intro has
  change WA RX6 cX6_init 2 [] _ _ 0 0 0 [some (.ref b), none] [] (b + 1) _
  refine WX_h (blk_1 hbe) ?_
  refine wa_aload_n dX6_init_0 rfl ?_
  refine wa_objInit dX6_init_1 wl_X6_1 wi_obj wc_obj (by simp [ab_ric]) ?_
  refine wa_aload_n dX6_init_4 rfl ?_
  refine wa_new (fs := dPA) tyX3 dX6_init_5 wk_X6_7 wi_X3 wz_X3 cl_PA.1 cl_PA.2.1 cl_PA.2.2.1 (by decide) (fun _ => rfl) (wf_d rfl) (by omega) (by simp [ab_ric]) (by simp [ab_ric]) ?_
  refine wa_dup dX6_init_8 rfl ?_
  refine wa_callINc (As := []) dX6_init_9 lk_X6_9 (ct_parser (b := b + 1) (by omega) (ab_up_s _ _ _)) (fun E n' h' q => by cases q.1) rfl rfl (by exact Nat.le_of_ble_eq_true rfl) (by unfold ab_fitc ab_ric; refine ⟨?_, ?_, ?_, ?_⟩ <;> simp) (by exact Nat.le_of_ble_eq_true rfl) (fun ro n' h' q _ => ?_)
  obtain ⟨q1, q2, q3⟩ := q
  rw [q2, q3]
  cases q1
  rw [blk_call (by decide), Nat.add_assoc b]
  refine wa_putF (v := .ref (b + 1)) (ty := .object "ValveRoom$Parser") 0 tyX6 dX6_init_12 fl_X6_10 cl_VR.1 cl_VR.2.1 cl_VR.2.2.1 cl_VR.2.2.2 (by decide) rfl (by simp [ab_ric]) rfl rfl (fun _ => rfl) (fun _ => rfl) (by omega) (blk_at0 (by decide)) (by exact Nat.le_of_ble_eq_true rfl) ?_
  rw [blk_up0 (by decide)]
  refine wa_aload_n dX6_init_15 rfl ?_
  refine wa_new (fs := dSB) tyJ4 dX6_init_16 wk_X6_16 wi_J4 wz_J4 cl_SB.1 cl_SB.2.1 cl_SB.2.2.1 (by decide) (fun _ => rfl) (wf_d rfl) (by omega) (by simp [ab_ric]) (by simp [ab_ric]) ?_
  refine wa_dup dX6_init_19 rfl ?_
  refine wa_callIc (As := []) dX6_init_20 lk_X6_18 (ct_sb (b := b + 32) (by omega) (ab_up_s _ _ _)) (fun E n' h' q => by cases q.1) rfl rfl (by exact Nat.le_of_ble_eq_true rfl) (by unfold ab_fitc ab_ric; refine ⟨?_, ?_, ?_, ?_⟩ <;> simp) (by exact Nat.le_of_ble_eq_true rfl) (fun ro n' h' q _ => ?_)
  obtain ⟨q1, q2, q3⟩ := q
  rw [q2, q3]
  cases q1
  rw [blk_call (by decide), Nat.add_assoc b]
  refine wa_putF (v := .ref (b + 32)) (ty := .object "java/lang/StringBuilder") 3 tyX6 dX6_init_23 fl_X6_19 cl_VR.1 cl_VR.2.1 cl_VR.2.2.1 cl_VR.2.2.2 (by decide) rfl (by simp [ab_ric]) rfl rfl (fun _ => rfl) (fun _ => rfl) (by omega) (blk_at0 (by decide)) (by exact Nat.le_of_ble_eq_true rfl) ?_
  rw [blk_up0 (by decide)]
  refine wa_aload_n dX6_init_26 rfl ?_
  refine wa_new (fs := dHO) tyX1 dX6_init_27 wk_X6_23 wi_X1 wz_X1 cl_HO.1 cl_HO.2.1 cl_HO.2.2.1 (by decide) (fun _ => rfl) (wf_d rfl) (by omega) (by simp [ab_ric]) (by simp [ab_ric]) ?_
  refine wa_dup dX6_init_30 rfl ?_
  refine wa_callIc (As := []) dX6_init_31 lk_X6_25 (ct_house (b := b + 34) (by omega) (ab_up_s _ _ _)) (fun E n' h' q => by cases q.1) rfl rfl (by exact Nat.le_of_ble_eq_true rfl) (by unfold ab_fitc ab_ric; refine ⟨?_, ?_, ?_, ?_⟩ <;> simp) (by exact Nat.le_of_ble_eq_true rfl) (fun ro n' h' q _ => ?_)
  obtain ⟨q1, q2, q3⟩ := q
  rw [q2, q3]
  cases q1
  rw [blk_call (by decide), Nat.add_assoc b]
  refine wa_putF (v := .ref (b + 34)) (ty := .object "ValveRoom$House") 4 tyX6 dX6_init_34 fl_X6_26 cl_VR.1 cl_VR.2.1 cl_VR.2.2.1 cl_VR.2.2.2 (by decide) rfl (by simp [ab_ric]) rfl rfl (fun _ => rfl) (fun _ => rfl) (by omega) (blk_at0 (by decide)) (by exact Nat.le_of_ble_eq_true rfl) ?_
  rw [blk_up0 (by decide)]
  refine wa_aload_n dX6_init_37 rfl ?_
  refine wa_new (fs := dHO) tyX1 dX6_init_38 wk_X6_23 wi_X1 wz_X1 cl_HO.1 cl_HO.2.1 cl_HO.2.2.1 (by decide) (fun _ => rfl) (wf_d rfl) (by omega) (by simp [ab_ric]) (by simp [ab_ric]) ?_
  refine wa_dup dX6_init_41 rfl ?_
  refine wa_callIc (As := []) dX6_init_42 lk_X6_25 (ct_house (b := b + 57) (by omega) (ab_up_s _ _ _)) (fun E n' h' q => by cases q.1) rfl rfl (by exact Nat.le_of_ble_eq_true rfl) (by unfold ab_fitc ab_ric; refine ⟨?_, ?_, ?_, ?_⟩ <;> simp) (by exact Nat.le_of_ble_eq_true rfl) (fun ro n' h' q _ => ?_)
  obtain ⟨q1, q2, q3⟩ := q
  rw [q2, q3]
  cases q1
  rw [blk_call (by decide), Nat.add_assoc b]
  refine wa_putF (v := .ref (b + 57)) (ty := .object "ValveRoom$House") 5 tyX6 dX6_init_45 fl_X6_30 cl_VR.1 cl_VR.2.1 cl_VR.2.2.1 cl_VR.2.2.2 (by decide) rfl (by simp [ab_ric]) rfl rfl (fun _ => rfl) (fun _ => rfl) (by omega) (blk_at0 (by decide)) (by exact Nat.le_of_ble_eq_true rfl) ?_
  rw [blk_up0 (by decide)]
  refine wa_aload_n dX6_init_48 rfl ?_
  refine wa_bipush (x := 6) dX6_init_49 (by decide) ?_
  refine wa_newq (t := 6) (len := 6) (C := RX1) dX6_init_51 wk_X6_23 (by decide +kernel) rfl rfl (by exact Nat.le_of_ble_eq_true rfl) (by omega) (by simp [ab_ric]) (by simp [ab_ric]) ?_
  rw [blk_new]
  refine wa_putF (v := .ref (b + 80)) (ty := .array (.object "ValveRoom$House")) 6 tyX6 dX6_init_54 fl_X6_33 cl_VR.1 cl_VR.2.1 cl_VR.2.2.1 cl_VR.2.2.2 (by decide) rfl (by simp [ab_ric]) rfl rfl (fun _ => rfl) (fun _ => rfl) (by omega) (blk_at0 (by decide)) (by exact Nat.le_of_ble_eq_true rfl) ?_
  rw [blk_up0 (by decide)]
  refine wa_aload_n dX6_init_57 rfl ?_
  refine wa_iconst (x := 2) dX6_init_58 (by decide) ?_
  refine wa_newq (t := 6) (len := 2) (C := RX1) dX6_init_59 wk_X6_23 (by decide +kernel) rfl rfl (by exact Nat.le_of_ble_eq_true rfl) (by omega) (by simp [ab_ric]) (by simp [ab_ric]) ?_
  rw [blk_new]
  refine wa_putF (v := .ref (b + 81)) (ty := .array (.object "ValveRoom$House")) 8 tyX6 dX6_init_62 fl_X6_37 cl_VR.1 cl_VR.2.1 cl_VR.2.2.1 cl_VR.2.2.2 (by decide) rfl (by simp [ab_ric]) rfl rfl (fun _ => rfl) (fun _ => rfl) (by omega) (blk_at0 (by decide)) (by exact Nat.le_of_ble_eq_true rfl) ?_
  rw [blk_up0 (by decide)]
  refine wa_aload_n dX6_init_65 rfl ?_
  refine wa_iconst (x := 2) dX6_init_66 (by decide) ?_
  refine wa_newZ (len := 2) dX6_init_67 rfl (by exact Nat.le_of_ble_eq_true rfl) (by omega) (by simp [ab_ric]) (by simp [ab_ric]) ?_
  rw [blk_new]
  refine wa_putF (v := .ref (b + 82)) (ty := .array .boolean) 9 tyX6 dX6_init_69 fl_X6_40 cl_VR.1 cl_VR.2.1 cl_VR.2.2.1 cl_VR.2.2.2 (by decide) rfl (by simp [ab_ric]) rfl rfl (fun _ => rfl) (fun _ => rfl) (by omega) (blk_at0 (by decide)) (by exact Nat.le_of_ble_eq_true rfl) ?_
  rw [blk_up0 (by decide)]
  refine wa_aload_n dX6_init_72 rfl ?_
  refine wa_iconst (x := (-1)) dX6_init_73 (by decide) ?_
  refine wa_putf (v := .int (-1)) (ty := .int) 2 tyX6 dX6_init_74 fl_X6_44 cl_VR.1 cl_VR.2.1 cl_VR.2.2.1 cl_VR.2.2.2 (by decide) rfl rfl (fun _ => rfl) (fun _ => rfl) (by omega) (blk_at0 (by decide)) (by exact Nat.le_of_ble_eq_true rfl) ?_
  rw [blk_up0 (by decide)]
  refine wa_iconst (x := 0) dX6_init_77 (by decide) ?_
  refine wa_istore_n dX6_init_78 rfl ?_
  refine WX_h (blk_cg (m := 83) (E' := vF b 0 0) (fun o ho => by
    by_cases h0 : o = 0
    · subst h0
      rfl
    · by_cases h1 : o < 32
      · simp [vF, ab_up, jn, h0, h1, show ¬ o = 82 by omega, show ¬ o = 81 by omega, show ¬ o = 80 by omega, show o < 34 by omega, show o < 57 by omega]
      · by_cases h2 : o < 34
        · simp [vF, ab_up, jn, h0, h1, h2, show ¬ o = 82 by omega, show ¬ o = 81 by omega, show ¬ o = 80 by omega, show o < 57 by omega]
        · by_cases h3 : o < 57
          · simp [vF, ab_up, jn, h0, h1, h2, h3, show ¬ o = 82 by omega, show ¬ o = 81 by omega, show ¬ o = 80 by omega]
          · by_cases h4 : o < 80
            · simp [vF, ab_up, jn, h0, h1, h2, h3, h4, show ¬ o = 82 by omega, show ¬ o = 81 by omega, show ¬ o = 80 by omega]
            · rcases (show o = 80 ∨ o = 81 ∨ o = 82 by omega) with rfl | rfl | rfl <;> simp [vF, ab_up])) ?_
  refine lp_past hn 6 0 rfl ?_
  refine wa_iconst (x := 0) dX6_init_107 (by decide) ?_
  refine wa_istore_n dX6_init_108 rfl ?_
  refine lp_kept hn 2 0 rfl ?_
  exact wa_return dX6_init_137 ⟨by simp, by simp, rfl, rfl, rfl, rfl⟩
theorem up_sameC {h : ab_H} {k : Nat} {e : va_E} (he : h k = e) : ab_up h k e = h := by
  funext j
  unfold ab_up
  by_cases hj : j = k
  · rw [if_pos hj, hj, he]
  · rw [if_neg hj]
theorem upd_z {k : Nat} : upd (fun _ => (0 : Int32)) k 0 = fun _ => 0 := by
  funext j
  unfold upd
  by_cases h : j = k
  · rw [if_pos h]
  · rw [if_neg h]
def dMO : List Value := [.int 0, .null, .null, .null, .null, .null, .int 0, .int 0, .int 0, .int 0, .int 0, .int 0, .int 0, .int 0, .null, .null, .null, .null, .int 0, .null, .int 0]
def mF (b : Nat) : Nat → va_E := fun o => if o = 0 then .inr (5, [.int 0, .ref (b + 1), .ref (b + 2), .ref (b + 1), .ref (b + 3), .ref (b + 4), .int 0, .int 0, .int 0, .int 0, .int 0, .int 0, .int 0, .int (-1), .ref (b + 5), .ref (b + 6), .ref (b + 7), .ref (b + 8), .int 0, .ref (b + 9), .int 0]) else if o = 1 then .inl (0, 467, .inl plain) else if o = 2 then .inl (0, 467, .inl (fun _ => 0)) else if o = 3 then .inl (0, 467, .inl (fun _ => 0)) else if o = 4 then .inl (1, 500, .inl (fun _ => 0)) else if o = 5 then .inl (2, 5, .inl (fun _ => 0)) else if o = 6 then .inl (0, 934, .inl (fun _ => 0)) else if o = 7 then .inl (2, 2, .inl (fun _ => 0)) else if o = 8 then .inl (0, 2802, .inl (fun _ => 0)) else .inl (1, 500, .inl (fun _ => 0))
