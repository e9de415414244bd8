/-! ValveRoom$Parser: symbols, words, numbers that are taken. Written by program (wip/whole/gen/m808.py) but for the heads. -/
theorem CSg.nend {P : (Nat → Int32) → Prop} {b : Nat → Int32} {N c n : Nat} {S : SS} {t told : Nat} {δ : Nat → Int32} {nf : Nat → Nat → Int32} {nl : Nat → Nat} (h : CSg P b N c n S t told δ nf nl) (hk : ¬ tk b N (pos b N t) = 0) : t + 1 < c := by
  have e := h.end
  have ht := h.tL
  have := tk_lt hk
  by_cases q : t + 1 = c
  · exact absurd this (e.mp q)
  · omega
theorem px_takeSymbol {P : (Nat → Int32) → Prop} {b : Nat → Int32} {N c n : Nat} {S : SS} {t told : Nat} {δ : Nat → Int32} {nf : Nat → Nat → Int32} {nl : Nat → Nat} (hn : 269 ≤ n) (h : CSg P b N c n S t told δ nf nl) (x : Int32) : AM yX3_takeSymbol cX3_takeSymbol 2 (some .boolean) [] 1 0 0 [.ref 1, .int x] n (Hp S) (PIe n (RB S (pSym b N x (pos b N t)) (fun p S' => p = pos b N (t + 1) ∧ CSg P b N c n S' (t + 1) told δ nf nl))) := by
  intro has
  change WA RX3 cX3_takeSymbol 2 [] _ _ 0 0 0 [some (.ref 1), some (.int x)] [] n _
  have ht := h.tL
  have hc := h.cL
  by_cases hs : isS b N x (pos b N t) = true
  · skip
    have ht1 := h.nend (by rw [(isS_iff.mp hs).1]; decide)
    refine wa_aload_n dX3_takeSymbol_0 rfl ?_
    refine wa_iload_n dX3_takeSymbol_1 rfl ?_
    refine c_VI dX3_takeSymbol_2 (px_isSymbol hn h x) lk_X3_87 rfl (isO_PA _ _ _) rfl (ltS hn) ?_
    rw [b2i_1 hs]
    refine wa_if_ne 14 dX3_takeSymbol_5 rfl (fun c5 => ?_) (fun c5 => absurd c5 (by decide))
    refine wa_aload_n dX3_takeSymbol_14 rfl ?_
    refine c_VQV dX3_takeSymbol_15 (px_pass hn h) lk_X3_90 rfl (isO_PA _ _ _) rfl (ltS hn) (fun S1 q1 => ?_)
    obtain ⟨q1, t1, ⟨-, q2⟩, q3⟩ := q1
    obtain rfl := q2 ht1
    refine wa_iconst (x := 1) dX3_takeSymbol_18 (by decide) ?_
    exact wa_ireturn dX3_takeSymbol_19 ⟨Nat.le_refl _, Nat.le_refl _, ⟨_, rfl, rfl⟩, rfl, _, _, rfl, rfl, RB.ofr (if_pos hs) q1 ⟨rfl, q3⟩⟩
  · skip
    refine wa_aload_n dX3_takeSymbol_0 rfl ?_
    refine wa_iload_n dX3_takeSymbol_1 rfl ?_
    refine c_VI dX3_takeSymbol_2 (px_isSymbol hn h x) lk_X3_87 rfl (isO_PA _ _ _) rfl (ltS hn) ?_
    rw [b2i_0 hs]
    refine wa_if_ne 14 dX3_takeSymbol_5 rfl (fun c5 => absurd rfl c5) (fun c5 => ?_)
    refine wa_aload_n dX3_takeSymbol_8 rfl ?_
    refine wa_iconst (x := 1) dX3_takeSymbol_9 (by decide) ?_
    refine c_VI dX3_takeSymbol_10 (px_fail (S := S) hn h 1) lk_X3_56 rfl (isO_PA _ _ _) rfl (ltS hn) ?_
    exact wa_ireturn dX3_takeSymbol_13 ⟨Nat.le_refl _, Nat.le_refl _, ⟨_, rfl, rfl⟩, rfl, _, _, rfl, rfl, RB.ofl (if_neg hs) (fail_fr FRps.rf _ _) (fail_err _ _ _)⟩
theorem px_takeKeyword {P : (Nat → Int32) → Prop} {b : Nat → Int32} {N c n : Nat} {S : SS} {t told : Nat} {δ : Nat → Int32} {nf : Nat → Nat → Int32} {nl : Nat → Nat} (hn : 269 ≤ n) (h : CSg P b N c n S t told δ nf nl) {i : Nat} (hi : i < 18) : AM yX3_takeKeyword cX3_takeKeyword 2 (some .boolean) [] 1 0 0 [.ref 1, .ref (ab_CB + (112 + i))] n (Hp S) (PIe n (RB S (pWord b N i (pos b N t)) (fun p S' => p = pos b N (t + 1) ∧ CSg P b N c n S' (t + 1) told δ nf nl))) := by
  intro has
  change WA RX3 cX3_takeKeyword 2 [] _ _ 0 0 0 [some (.ref 1), some (.ref (ab_CB + (112 + i)))] [] n _
  have ht := h.tL
  have hc := h.cL
  by_cases hs : wd b N (kw i) (pos b N t) = true
  · skip
    have ht1 := h.nend (by rw [(wd_iff.mp hs).1]; decide)
    refine wa_aload_n dX3_takeKeyword_0 rfl ?_
    refine wa_aload_n dX3_takeKeyword_1 rfl ?_
    refine c_VI dX3_takeKeyword_2 (px_isKeyword hn h hi) lk_X3_93 rfl (isO_PA _ _ _) rfl (ltS hn) ?_
    rw [b2i_1 hs]
    refine wa_if_ne 14 dX3_takeKeyword_5 rfl (fun c5 => ?_) (fun c5 => absurd c5 (by decide))
    refine wa_aload_n dX3_takeKeyword_14 rfl ?_
    refine c_VQV dX3_takeKeyword_15 (px_pass hn h) lk_X3_90 rfl (isO_PA _ _ _) rfl (ltS hn) (fun S1 q1 => ?_)
    obtain ⟨q1, t1, ⟨-, q2⟩, q3⟩ := q1
    obtain rfl := q2 ht1
    refine wa_iconst (x := 1) dX3_takeKeyword_18 (by decide) ?_
    exact wa_ireturn dX3_takeKeyword_19 ⟨Nat.le_refl _, Nat.le_refl _, ⟨_, rfl, rfl⟩, rfl, _, _, rfl, rfl, RB.ofr (if_pos hs) q1 ⟨rfl, q3⟩⟩
  · skip
    refine wa_aload_n dX3_takeKeyword_0 rfl ?_
    refine wa_aload_n dX3_takeKeyword_1 rfl ?_
    refine c_VI dX3_takeKeyword_2 (px_isKeyword hn h hi) lk_X3_93 rfl (isO_PA _ _ _) rfl (ltS hn) ?_
    rw [b2i_0 hs]
    refine wa_if_ne 14 dX3_takeKeyword_5 rfl (fun c5 => absurd rfl c5) (fun c5 => ?_)
    refine wa_aload_n dX3_takeKeyword_8 rfl ?_
    refine wa_iconst (x := 1) dX3_takeKeyword_9 (by decide) ?_
    refine c_VI dX3_takeKeyword_10 (px_fail (S := S) hn h 1) lk_X3_56 rfl (isO_PA _ _ _) rfl (ltS hn) ?_
    exact wa_ireturn dX3_takeKeyword_13 ⟨Nat.le_refl _, Nat.le_refl _, ⟨_, rfl, rfl⟩, rfl, _, _, rfl, rfl, RB.ofl (if_neg hs) (fail_fr FRps.rf _ _) (fail_err _ _ _)⟩
theorem nv_rng {b : Nat → Int32} {N p lo hi : Nat} (hh : hi ≤ 9999) : ((lo ≤ nv b 100000 p (te b N p - p) ∧ nv b 100000 p (te b N p - p) ≤ hi) ↔ (lo ≤ vl b N p ∧ vl b N p ≤ hi)) ∧ ((lo ≤ vl b N p ∧ vl b N p ≤ hi) → nv b 100000 p (te b N p - p) = vl b N p) := by
  have q := nv_two b p (te b N p - p)
  show (_ ↔ (lo ≤ nv b 99999 p (te b N p - p) ∧ nv b 99999 p (te b N p - p) ≤ hi)) ∧ ((lo ≤ nv b 99999 p (te b N p - p) ∧ nv b 99999 p (te b N p - p) ≤ hi) → _ = nv b 99999 p (te b N p - p))
  omega
theorem tv_num {b : Nat → Int32} {N p : Nat} (h : tk b N p = 2) : tv b p (te b N p - p) = nI (nv b 100000 p (te b N p - p)) := by
  have hp : p < N := tk_lt (by rw [h]; decide)
  unfold tk at h
  rw [if_pos hp] at h
  exact if_pos h
theorem le_of_nI {a b : Nat} (ha : a < 2 ^ 31) (hb : b < 2 ^ 31) (h : nI a ≤ nI b) : a ≤ b := (nI_leI ha hb).mp h
theorem px_passN {P : (Nat → Int32) → Prop} {b : Nat → Int32} {N c n : Nat} {S : SS} {t told : Nat} {δ : Nat → Int32} {nf : Nat → Nat → Int32} {nl : Nat → Nat} (hn : 269 ≤ n) (h : CSg P b N c n S t told δ nf nl) (ht1 : t + 1 < c) (x : Int32) : AM yX3_pass cX3_pass 1 none [] 0 0 0 [.ref 1] n (Hp (ss S 1 7 x)) (PVe n (fun S' => FRps S S' ∧ S'.1 1 7 = x ∧ CSg P b N c n S' (t + 1) told δ nf nl)) := by
  have h2 := h.num x
  intro has
  change WA RX3 cX3_pass 1 [] _ _ 0 0 0 [some (.ref 1)] [] n _
  have ht := h.tL
  have hc := h.cL
  refine wa_aload_n dX3_pass_0 rfl ?_
  refine g_PA hn 6 dX3_pass_1 fl_X3_37 (by decide) (v := .int (nI t)) (congrArg (fun x => some (Value.int x)) h2.a) ?_
  refine wa_aload_n dX3_pass_4 rfl ?_
  refine g_PA (by assumption) 5 dX3_pass_5 fl_X3_25 (by decide) rfl ?_
  refine g_TO hn 0 dX3_pass_8 fl_X3_60 (by decide) (v := .int (nI c)) (congrArg (fun x => some (Value.int x)) h2.1.1.1) ?_
  refine wa_iconst (x := 1) dX3_pass_11 (by decide) ?_
  refine wa_isub dX3_pass_12 ?_
  rw [show nI c - 1 = nI (c - 1) from nI_sub (b := 1) (by omega)]
  refine wa_icmp_ge 26 dX3_pass_13 rfl (fun c13 => absurd c13 (nI_ge (by omega) (by omega))) (fun c13 => ?_)
  refine wa_aload_n dX3_pass_16 rfl ?_
  refine wa_dup dX3_pass_17 rfl ?_
  refine g_PA hn 6 dX3_pass_18 fl_X3_37 (by decide) (v := .int (nI t)) (congrArg (fun x => some (Value.int x)) h2.a) ?_
  refine wa_iconst (x := 1) dX3_pass_21 (by decide) ?_
  refine wa_iadd dX3_pass_22 ?_
  rw [nI_1 t]
  refine p_PA hn 6 dX3_pass_23 fl_X3_37 (by decide) rfl rfl rfl rfl (fun _ _ _ => rfl) (Nat.le_of_ble_eq_true rfl) ?_
  exact wa_return dX3_pass_26 ⟨Nat.le_refl _, Nat.le_refl _, rfl, rfl, rfl, _, rfl, (FRps.rf.p (by decide) _).p (by decide) _, (ss_j _ _ (by decide)).trans (ss_e _ _ _ _), h2.go ht1⟩
theorem px_takeNumber {P : (Nat → Int32) → Prop} {b : Nat → Int32} {N c n : Nat} {S : SS} {t told : Nat} {δ : Nat → Int32} {nf : Nat → Nat → Int32} {nl : Nat → Nat} (hn : 269 ≤ n) (h : CSg P b N c n S t told δ nf nl) {lo ho : Nat} (hlo : lo ≤ 9999) (hho : ho ≤ 9999) : AM yX3_takeNumber cX3_takeNumber 4 (some .boolean) [] 1 0 0 [.ref 1, .int (nI lo), .int (nI ho)] n (Hp S) (PIe n (RB S (pNum b N lo ho (pos b N t)) (fun q S' => q.2 = pos b N (t + 1) ∧ (lo ≤ q.1 ∧ q.1 ≤ ho) ∧ S'.1 1 7 = nI q.1 ∧ CSg P b N c n S' (t + 1) told δ nf nl))) := by
  intro has
  change WA RX3 cX3_takeNumber 4 [] _ _ 0 0 0 [some (.ref 1), some (.int (nI lo)), some (.int (nI ho)), none] [] n _
  have ht := h.tL
  have hc := h.cL
  by_cases hk : tk b N (pos b N t) = 2
  · have hk2 := (h.tkE (k := 2) (by decide) (by decide)).mpr hk
    obtain ⟨v1, v2⟩ := nv_rng (b := b) (N := N) (p := pos b N t) (lo := lo) (hi := ho) hho
    have ht1 := h.nend (by rw [hk]; decide)
    have v9 := nv_le b 100000 (pos b N t) (te b N (pos b N t) - pos b N t)
    by_cases hr : lo ≤ vl b N (pos b N t) ∧ vl b N (pos b N t) ≤ ho
    · have e9 := v2 hr
      rw [e9] at v1 v9
      refine wa_aload_n dX3_takeNumber_0 rfl ?_
      refine g_PA (by assumption) 5 dX3_takeNumber_1 fl_X3_25 (by decide) rfl ?_
      refine g_TO (by assumption) 1 dX3_takeNumber_4 fl_X3_74 (by decide) rfl ?_
      refine wa_aload_n dX3_takeNumber_7 rfl ?_
      refine g_PA hn 6 dX3_takeNumber_8 fl_X3_37 (by decide) (v := .int (nI t)) (congrArg (fun x => some (Value.int x)) h.a) ?_
      refine s_iald (j := t) isA_kinds dX3_takeNumber_11 (ltS hn) (ix_nI (by omega)) (by omega) ?_
      rw [h.kd]
      refine wa_iconst (x := 2) dX3_takeNumber_12 (by decide) ?_
      refine wa_icmp_eq 22 dX3_takeNumber_13 rfl (fun c13 => ?_) (fun c13 => absurd (by rw [hk2]; rfl) c13)
      refine wa_aload_n dX3_takeNumber_22 rfl ?_
      refine g_PA (by assumption) 5 dX3_takeNumber_23 fl_X3_25 (by decide) rfl ?_
      refine g_TO (by assumption) 4 dX3_takeNumber_26 fl_X3_77 (by decide) rfl ?_
      refine wa_aload_n dX3_takeNumber_29 rfl ?_
      refine g_PA hn 6 dX3_takeNumber_30 fl_X3_37 (by decide) (v := .int (nI t)) (congrArg (fun x => some (Value.int x)) h.a) ?_
      refine s_iald (j := t) isA_values dX3_takeNumber_33 (ltS hn) (ix_nI (by omega)) (by omega) ?_
      rw [h.vals (tk_lt (by rw [hk]; decide)), tv_num hk]
      rw [e9]
      refine wa_istore_n dX3_takeNumber_34 rfl ?_
      refine wa_iload_n dX3_takeNumber_35 rfl ?_
      refine wa_iload_n dX3_takeNumber_36 rfl ?_
      refine wa_icmp_lt 45 dX3_takeNumber_37 rfl (fun c37 => absurd (show nI lo ≤ nI (vl b N (pos b N t)) from nI_leN hr.1 (by omega)) (Int32.not_le.mpr c37)) (fun c37 => ?_)
      refine wa_iload_n dX3_takeNumber_40 rfl ?_
      refine wa_iload_n dX3_takeNumber_41 rfl ?_
      refine wa_icmp_le 51 dX3_takeNumber_42 rfl (fun c42 => ?_) (fun c42 => absurd (show nI (vl b N (pos b N t)) ≤ nI ho from nI_leN hr.2 (by omega)) c42)
      refine wa_aload_n dX3_takeNumber_51 rfl ?_
      refine wa_iload_n dX3_takeNumber_52 rfl ?_
      refine p_PA hn 7 dX3_takeNumber_53 fl_X3_97 (by decide) rfl rfl rfl rfl (fun _ _ _ => rfl) (Nat.le_of_ble_eq_true rfl) ?_
      refine wa_aload_n dX3_takeNumber_56 rfl ?_
      refine c_VQV dX3_takeNumber_57 (px_passN hn h ht1 (nI (vl b N (pos b N t)))) lk_X3_90 rfl (isO_PA _ _ _) rfl (ltS hn) (fun S1 q1 => ?_)
      refine wa_iconst (x := 1) dX3_takeNumber_60 (by decide) ?_
      exact wa_ireturn dX3_takeNumber_61 ⟨Nat.le_refl _, Nat.le_refl _, ⟨_, rfl, rfl⟩, rfl, _, _, rfl, rfl, RB.ofr (a := (vl b N (pos b N t), nx b N (pos b N t))) (by simp only [pNum, pNumH, if_pos hk, if_pos hr, pb]) q1.1 ⟨rfl, hr, q1.2.1, q1.2.2⟩⟩
    · skip
      refine wa_aload_n dX3_takeNumber_0 rfl ?_
      refine g_PA (by assumption) 5 dX3_takeNumber_1 fl_X3_25 (by decide) rfl ?_
      refine g_TO (by assumption) 1 dX3_takeNumber_4 fl_X3_74 (by decide) rfl ?_
      refine wa_aload_n dX3_takeNumber_7 rfl ?_
      refine g_PA hn 6 dX3_takeNumber_8 fl_X3_37 (by decide) (v := .int (nI t)) (congrArg (fun x => some (Value.int x)) h.a) ?_
      refine s_iald (j := t) isA_kinds dX3_takeNumber_11 (ltS hn) (ix_nI (by omega)) (by omega) ?_
      rw [h.kd]
      refine wa_iconst (x := 2) dX3_takeNumber_12 (by decide) ?_
      refine wa_icmp_eq 22 dX3_takeNumber_13 rfl (fun c13 => ?_) (fun c13 => absurd (by rw [hk2]; rfl) c13)
      refine wa_aload_n dX3_takeNumber_22 rfl ?_
      refine g_PA (by assumption) 5 dX3_takeNumber_23 fl_X3_25 (by decide) rfl ?_
      refine g_TO (by assumption) 4 dX3_takeNumber_26 fl_X3_77 (by decide) rfl ?_
      refine wa_aload_n dX3_takeNumber_29 rfl ?_
      refine g_PA hn 6 dX3_takeNumber_30 fl_X3_37 (by decide) (v := .int (nI t)) (congrArg (fun x => some (Value.int x)) h.a) ?_
      refine s_iald (j := t) isA_values dX3_takeNumber_33 (ltS hn) (ix_nI (by omega)) (by omega) ?_
      rw [h.vals (tk_lt (by rw [hk]; decide)), tv_num hk]
      refine wa_istore_n dX3_takeNumber_34 rfl ?_
      refine wa_iload_n dX3_takeNumber_35 rfl ?_
      refine wa_iload_n dX3_takeNumber_36 rfl ?_
      refine wa_icmp_lt 45 dX3_takeNumber_37 rfl (fun _ => ?_) (fun c37 => ?_)
      · skip
        refine wa_aload_n dX3_takeNumber_45 rfl ?_
        refine wa_iconst (x := 2) dX3_takeNumber_46 (by decide) ?_
        refine c_VI dX3_takeNumber_47 (px_fail (S := S) hn h 2) lk_X3_56 rfl (isO_PA _ _ _) rfl (ltS hn) ?_
        exact wa_ireturn dX3_takeNumber_50 ⟨Nat.le_refl _, Nat.le_refl _, ⟨_, rfl, rfl⟩, rfl, _, _, rfl, rfl, RB.ofl (by simp only [pNum, pNumH, if_pos hk, if_neg hr, pb]) (fail_fr FRps.rf _ _) (fail_err _ _ _)⟩
      · skip
        refine wa_iload_n dX3_takeNumber_40 rfl ?_
        refine wa_iload_n dX3_takeNumber_41 rfl ?_
        refine wa_icmp_le 51 dX3_takeNumber_42 rfl (fun c42 => absurd (v1.mp ⟨le_of_nI (by omega) (by omega) (Int32.not_lt.mp c37), le_of_nI (by omega) (by omega) c42⟩) hr) (fun _ => ?_)
        refine wa_aload_n dX3_takeNumber_45 rfl ?_
        refine wa_iconst (x := 2) dX3_takeNumber_46 (by decide) ?_
        refine c_VI dX3_takeNumber_47 (px_fail (S := S) hn h 2) lk_X3_56 rfl (isO_PA _ _ _) rfl (ltS hn) ?_
        exact wa_ireturn dX3_takeNumber_50 ⟨Nat.le_refl _, Nat.le_refl _, ⟨_, rfl, rfl⟩, rfl, _, _, rfl, rfl, RB.ofl (by simp only [pNum, pNumH, if_pos hk, if_neg hr, pb]) (fail_fr FRps.rf _ _) (fail_err _ _ _)⟩
  · have hk2 : ¬ tkk b N c t = 2 := fun z => hk ((h.tkE (k := 2) (by decide) (by decide)).mp z)
    refine wa_aload_n dX3_takeNumber_0 rfl ?_
    refine g_PA (by assumption) 5 dX3_takeNumber_1 fl_X3_25 (by decide) rfl ?_
    refine g_TO (by assumption) 1 dX3_takeNumber_4 fl_X3_74 (by decide) rfl ?_
    refine wa_aload_n dX3_takeNumber_7 rfl ?_
    refine g_PA hn 6 dX3_takeNumber_8 fl_X3_37 (by decide) (v := .int (nI t)) (congrArg (fun x => some (Value.int x)) h.a) ?_
    refine s_iald (j := t) isA_kinds dX3_takeNumber_11 (ltS hn) (ix_nI (by omega)) (by omega) ?_
    rw [h.kd]
    refine wa_iconst (x := 2) dX3_takeNumber_12 (by decide) ?_
    refine wa_icmp_eq 22 dX3_takeNumber_13 rfl (fun c13 => absurd (nI_inj (a := tkk b N c t) (b := 2) (by have := h.kl; omega) (by decide) c13) hk2) (fun c13 => ?_)
    refine wa_aload_n dX3_takeNumber_16 rfl ?_
    refine wa_iconst (x := 1) dX3_takeNumber_17 (by decide) ?_
    refine c_VI dX3_takeNumber_18 (px_fail (S := S) hn h 1) lk_X3_56 rfl (isO_PA _ _ _) rfl (ltS hn) ?_
    exact wa_ireturn dX3_takeNumber_21 ⟨Nat.le_refl _, Nat.le_refl _, ⟨_, rfl, rfl⟩, rfl, _, _, rfl, rfl, RB.ofl (by simp only [pNum, pNumH, if_neg hk, pb]) (fail_fr FRps.rf _ _) (fail_err _ _ _)⟩
theorem px_takeOption {P : (Nat → Int32) → Prop} {b : Nat → Int32} {N c n : Nat} {S : SS} {t told : Nat} {δ : Nat → Int32} {nf : Nat → Nat → Int32} {nl : Nat → Nat} (hn : 269 ≤ n) (h : CSg P b N c n S t told δ nf nl) {i lo ho pl : Nat} (hi : i < 18) (hlo : lo ≤ 9999) (hho : ho ≤ 9999) : AM yX3_takeOption cX3_takeOption 5 (some .boolean) [] 2 0 0 [.ref 1, .ref (ab_CB + (112 + i)), .int (nI lo), .int (nI ho), .int (nI pl)] n (Hp S) (PIe n (RB S (pNumIf b N i pl lo ho (pos b N t)) (fun q S' => ∃ t', q.2 = pos b N t' ∧ t ≤ t' ∧ (q.1 = pl ∨ (lo ≤ q.1 ∧ q.1 ≤ ho)) ∧ S'.1 1 7 = nI q.1 ∧ CSg P b N c n S' t' told δ nf nl))) := by
  intro has
  change WA RX3 cX3_takeOption 5 [] _ _ 0 0 0 [some (.ref 1), some (.ref (ab_CB + (112 + i))), some (.int (nI lo)), some (.int (nI ho)), some (.int (nI pl))] [] n _
  have ht := h.tL
  have hc := h.cL
  by_cases hs : wd b N (kw i) (pos b N t) = true
  · have ht1 := h.nend (by rw [(wd_iff.mp hs).1]; decide)
    refine wa_aload_n dX3_takeOption_0 rfl ?_
    refine wa_aload_n dX3_takeOption_1 rfl ?_
    refine c_VI dX3_takeOption_2 (px_isKeyword hn h hi) lk_X3_93 rfl (isO_PA _ _ _) rfl (ltS hn) ?_
    rw [b2i_1 hs]
    refine wa_if_eq 19 dX3_takeOption_5 rfl (fun c5 => absurd c5 (by decide)) (fun c5 => ?_)
    refine wa_aload_n dX3_takeOption_8 rfl ?_
    refine c_VQV dX3_takeOption_9 (px_pass hn h) lk_X3_90 rfl (isO_PA _ _ _) rfl (ltS hn) (fun S1 q1 => ?_)
    obtain ⟨q1, t1, ⟨-, q2⟩, q3⟩ := q1
    obtain rfl := q2 ht1
    refine wa_aload_n dX3_takeOption_12 rfl ?_
    refine wa_iload_n dX3_takeOption_13 rfl ?_
    refine wa_iload_n dX3_takeOption_14 rfl ?_
    refine c_VQI dX3_takeOption_15 (px_takeNumber hn q3 hlo hho) lk_X3_100 rfl (isO_PA _ _ _) rfl (ltS hn) (fun w2 S2 r2 => ?_)
    cases hx2 : pNum b N lo ho (pos b N (t + 1)) with
    | inl e =>
      obtain ⟨f2, rfl, q2⟩ := RB.l hx2 r2
      exact wa_ireturn dX3_takeOption_18 ⟨Nat.le_refl _, Nat.le_refl _, ⟨_, rfl, rfl⟩, rfl, _, _, rfl, rfl, RB.ofl (by simp only [pNumIf, pNumA, pWord, if_pos hs, pb]; exact hx2) (q1.tr f2) q2⟩
    | inr a2 =>
      obtain ⟨v2, p2⟩ := a2
      obtain ⟨f2, rfl, (e2 : p2 = pos b N (t + 1 + 1)), g2, m2, h2⟩ := RB.r hx2 r2
      subst e2
      exact wa_ireturn dX3_takeOption_18 ⟨Nat.le_refl _, Nat.le_refl _, ⟨_, rfl, rfl⟩, rfl, _, _, rfl, rfl, RB.ofr (a := (v2, pos b N (t + 1 + 1))) (by simp only [pNumIf, pNumA, pWord, if_pos hs, pb]; exact hx2) (q1.tr f2) ⟨t + 1 + 1, rfl, by omega, Or.inr g2, m2, h2⟩⟩
  · skip
    refine wa_aload_n dX3_takeOption_0 rfl ?_
    refine wa_aload_n dX3_takeOption_1 rfl ?_
    refine c_VI dX3_takeOption_2 (px_isKeyword hn h hi) lk_X3_93 rfl (isO_PA _ _ _) rfl (ltS hn) ?_
    rw [b2i_0 hs]
    refine wa_if_eq 19 dX3_takeOption_5 rfl (fun c5 => ?_) (fun c5 => absurd rfl c5)
    refine wa_aload_n dX3_takeOption_19 rfl ?_
    refine wa_iload dX3_takeOption_20 rfl ?_
    refine p_PA hn 7 dX3_takeOption_22 fl_X3_97 (by decide) rfl rfl rfl rfl (fun _ _ _ => rfl) (Nat.le_of_ble_eq_true rfl) ?_
    refine wa_iconst (x := 1) dX3_takeOption_25 (by decide) ?_
    exact wa_ireturn dX3_takeOption_26 ⟨Nat.le_refl _, Nat.le_refl _, ⟨_, rfl, rfl⟩, rfl, _, _, rfl, rfl, RB.ofr (a := (pl, pos b N t)) (if_neg hs) (FRps.rf.p (by decide) _) ⟨t, rfl, Nat.le_refl _, Or.inl rfl, ss_e _ _ _ _, h.num _⟩⟩
theorem bits_and : ∀ m, m < 32 → ∀ k, k < 5 → (nI m &&& nI (2 ^ k) = 0 ↔ m.testBit k = false) := by decide
theorem bits_or : ∀ m, m < 32 → ∀ k, k < 5 → nI m ||| nI (2 ^ k) = nI (m ||| 2 ^ k) := by decide
/-- what a statement leaves: a state of the pure parser -/
def PO (P : (Nat → Int32) → Prop) (b : Nat → Int32) (N c n t : Nat) (nf : Nat → Nat → Int32) (nl : Nat → Nat) : PST → SS → Prop := fun s S' => ∃ t', s.1 = pos b N t' ∧ t ≤ t' ∧ CSg P b N c n S' t' s.2.2 s.2.1 nf nl
theorem px_takeOnce {P : (Nat → Int32) → Prop} {b : Nat → Int32} {N c n : Nat} {S : SS} {t told : Nat} {δ : Nat → Int32} {nf : Nat → Nat → Int32} {nl : Nat → Nat} (hn : 269 ≤ n) (h : CSg P b N c n S t told δ nf nl) {k : Nat} (hk : k < 5) (hk0 : ¬ tk b N (pos b N t) = 0) : AM yX3_takeOnce cX3_takeOnce 2 (some .boolean) [] 1 0 0 [.ref 1, .int (nI (2 ^ k))] n (Hp S) (PIe n (RB S (pOnce b N k (pos b N t, δ, told)) (PO P b N c n (t + 1) nf nl))) := by
  intro has
  change WA RX3 cX3_takeOnce 2 [] _ _ 0 0 0 [some (.ref 1), some (.int (nI (2 ^ k)))] [] n _
  have ht := h.tL
  have hc := h.cL
  have hd := h.2.2.1
  have ht1 := h.nend hk0
  by_cases hb : told.testBit k = true
  · skip
    refine wa_aload_n dX3_takeOnce_0 rfl ?_
    refine g_PA hn 8 dX3_takeOnce_1 fl_X3_40 (by decide) (v := .int (nI told)) (congrArg (fun x => some (Value.int x)) hd.2) ?_
    refine wa_iload_n dX3_takeOnce_4 rfl ?_
    refine wa_iand dX3_takeOnce_5 ?_
    refine wa_if_eq 15 dX3_takeOnce_6 rfl (fun c6 => absurd ((bits_and told hd.1 k hk).mp c6) (by rw [hb]; decide)) (fun c6 => ?_)
    refine wa_aload_n dX3_takeOnce_9 rfl ?_
    refine wa_iconst (x := 3) dX3_takeOnce_10 (by decide) ?_
    refine c_VI dX3_takeOnce_11 (px_fail (S := S) hn h 3) lk_X3_56 rfl (isO_PA _ _ _) rfl (ltS hn) ?_
    exact wa_ireturn dX3_takeOnce_14 ⟨Nat.le_refl _, Nat.le_refl _, ⟨_, rfl, rfl⟩, rfl, _, _, rfl, rfl, RB.ofl (by simp only [pOnce]; exact if_pos hb) (fail_fr FRps.rf _ _) (fail_err _ _ _)⟩
  · skip
    refine wa_aload_n dX3_takeOnce_0 rfl ?_
    refine g_PA hn 8 dX3_takeOnce_1 fl_X3_40 (by decide) (v := .int (nI told)) (congrArg (fun x => some (Value.int x)) hd.2) ?_
    refine wa_iload_n dX3_takeOnce_4 rfl ?_
    refine wa_iand dX3_takeOnce_5 ?_
    refine wa_if_eq 15 dX3_takeOnce_6 rfl (fun c6 => ?_) (fun c6 => absurd ((bits_and told hd.1 k hk).mpr (by simpa using hb)) c6)
    refine wa_aload_n dX3_takeOnce_15 rfl ?_
    refine wa_dup dX3_takeOnce_16 rfl ?_
    refine g_PA hn 8 dX3_takeOnce_17 fl_X3_40 (by decide) (v := .int (nI told)) (congrArg (fun x => some (Value.int x)) hd.2) ?_
    refine wa_iload_n dX3_takeOnce_20 rfl ?_
    refine wa_ior dX3_takeOnce_21 ?_
    rw [bits_or told hd.1 k hk]
    refine p_PA hn 8 dX3_takeOnce_22 fl_X3_40 (by decide) rfl rfl rfl rfl (fun _ _ _ => rfl) (Nat.le_of_ble_eq_true rfl) ?_
    refine wa_aload_n dX3_takeOnce_25 rfl ?_
    refine c_VQV dX3_takeOnce_26 (px_pass hn (h.toldP (told_lt told hd.1 k hk))) lk_X3_90 rfl (isO_PA _ _ _) rfl (ltS hn) (fun S1 q1 => ?_)
    obtain ⟨q1, t1, ⟨-, q2⟩, q3⟩ := q1
    obtain rfl := q2 ht1
    refine wa_iconst (x := 1) dX3_takeOnce_29 (by decide) ?_
    exact wa_ireturn dX3_takeOnce_30 ⟨Nat.le_refl _, Nat.le_refl _, ⟨_, rfl, rfl⟩, rfl, _, _, rfl, rfl, RB.ofr (by simp only [pOnce]; exact if_neg hb) ((FRps.rf.p (by decide) _).tr q1) ⟨t + 1, rfl, by omega, q3⟩⟩

