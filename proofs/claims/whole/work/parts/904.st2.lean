/-! THE START: the law's first steps. -/
theorem fin0_all : fin0 (Hp S0) = Hp S0 := by
  funext k
  by_cases hk : k < 279
  · exact fin0_S0 hk
  · unfold fin0
    rw [ab_up_n _ _ (by omega), ab_up_n _ _ (by omega)]
    unfold blk
    rw [if_neg (by omega)]
theorem heap0 {e x : va_E} : ab_up (ab_up (blk (ab_up (blk (ab_up (Hp S0) 0 e) 0 267 (vF 0 6 2)) (0 + 267) x) 267 10 (mF 267)) (267 + 10) (.inl (4, 1, .inr (.inl (fun _ => 0))))) (267 + 10 + 1) (.inl (5, 1, .inr (.inr (.inr (.inl (fun _ => 0)))))) = Hp S0 := by
  have h1 : blk (ab_up (blk (ab_up (Hp S0) 0 e) 0 267 (vF 0 6 2)) (0 + 267) x) 267 10 (mF 267) = blk (ab_up (Hp S0) 0 e) 0 (267 + 10) (jn 267 (vF 0 6 2) (mF 267)) := blk_call (b := 0) (m := 267) (by decide)
  have h2 : blk (ab_up (Hp S0) 0 e) 0 (267 + 10) (jn 267 (vF 0 6 2) (mF 267)) = blk (Hp S0) 0 277 (jn 267 (vF 0 6 2) (mF 267)) := by
    funext k
    unfold blk
    by_cases hk : 0 ≤ k ∧ k < 0 + 277
    · rw [if_pos hk, if_pos hk]
    · rw [if_neg hk, if_neg hk, ab_up_n _ _ (by omega)]
  rw [h1, h2]
  exact fin0_all
theorem law_begin (h29 : LCT 1751) (h30 : LCT 1792) {L : Nat} {xs : Nat → Int32} (hL : L ≤ 3072) : LX L xs lawQ 0 0 0 [some (.ref (ab_CB + 500000)), none, none, none, none, none, none, none, none, none] [] 0 (Hp S0) := by
  have e9 : ab_CB = 1000000 := rfl
  refine wa_new (fs := dVR) tyX6 dL_law_0 wk_L_8 wi_X6 wz_X6 cl_VR.1 cl_VR.2.1 cl_VR.2.2.1 (by decide) (fun _ => rfl) (wf_d rfl) (by omega) (by show 0 + 1 ≤ 601024; omega) (by show 0 + 10 ≤ 7293034; omega) ?_
  refine wa_dup dL_law_3 rfl ?_
  refine wa_callIc (As := []) dL_law_4 lk_L_149 (ct_vr (b := 0) (by omega) (ab_up_s _ _ _)) (fun E n' h' q => by cases q.1) rfl rfl (by exact Nat.le_of_ble_eq_true rfl) (by unfold ab_fitc; refine ⟨?_, ?_, ?_, ?_⟩ <;> simp [room_1]) (by exact Nat.le_of_ble_eq_true rfl) (fun ro n' h' q _ => ?_)
  obtain ⟨q1, rfl, rfl⟩ := q
  cases q1
  refine wa_astore_n dL_law_7 rfl ?_
  refine wa_new (fs := dMO) tyX7 dL_law_8 wk_L_150 wi_X7 wz_X7 cl_MO.1 cl_MO.2.1 cl_MO.2.2.1 (by decide) (fun _ => rfl) (wf_d rfl) (by omega) (by show _ ≤ 601024; omega) (by show _ ≤ 7293034; omega) ?_
  refine wa_dup dL_law_11 rfl ?_
  refine wa_callIc (As := []) dL_law_12 lk_L_152 (ct_model (b := 267) (by omega) (ab_up_s _ _ _)) (fun E n' h' q => by cases q.1) rfl rfl (by exact Nat.le_of_ble_eq_true rfl) (by unfold ab_fitc; refine ⟨?_, ?_, ?_, ?_⟩ <;> simp [room_1]) (by exact Nat.le_of_ble_eq_true rfl) (fun ro n' h' q _ => ?_)
  obtain ⟨q1, rfl, rfl⟩ := q
  cases q1
  refine wa_astore_n dL_law_15 rfl ?_
  refine wa_iconst (x := 1) dL_law_16 (by decide) ?_
  refine wa_newa (ty := .long) (t := 4) (len := 1) (a0 := (1, .inr (.inl (fun _ => 0)))) dL_law_17 wa_cls_long rfl rfl (by decide) (by decide) (fun _ => rfl) (fun _ => rfl) trivial (by decide) (by omega) (by show _ ≤ 601024; omega) (by show _ ≤ 7293034; omega) ?_
  refine wa_astore_n dL_law_19 rfl ?_
  refine wa_iconst (x := 1) dL_law_20 (by decide) ?_
  refine wa_newa (ty := .double) (t := 5) (len := 1) (a0 := (1, .inr (.inr (.inr (.inl (fun _ => 0)))))) dL_law_21 wa_cls_double rfl rfl (by decide) (by decide) (fun _ => rfl) (fun _ => rfl) trivial (by decide) (by omega) (by show _ ≤ 601024; omega) (by show _ ≤ 7293034; omega) ?_
  refine wa_astore dL_law_23 rfl ?_
  refine wa_iconst (x := 0) dL_law_25 (by decide) ?_
  refine wa_istore dL_law_26 rfl ?_
  have K := law_loop h29 h30 (xs := xs) hL (L / 6) 0 (by omega) 279 14672 279 0 S0 none none none none INV_S0 (by omega) (by omega) (by omega)
  exact WX_h heap0 K
