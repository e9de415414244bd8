/-! ValveRoom$Parser: the kind of a plan, a room that is known. Written by program (wip/whole/gen/m812.py) but for the heads. -/
theorem gs_TEMP : ("ValveRoom$Keyword", "TEMP", "LValveRoom$Keyword;", Value.ref (ab_CB + (112 + 7))) ∈ ab_st := by simp [ab_st]
theorem gs_POWER : ("ValveRoom$Keyword", "POWER", "LValveRoom$Keyword;", Value.ref (ab_CB + (112 + 8))) ∈ ab_st := by simp [ab_st]
theorem gs_LOSS : ("ValveRoom$Keyword", "LOSS", "LValveRoom$Keyword;", Value.ref (ab_CB + (112 + 9))) ∈ ab_st := by simp [ab_st]
theorem gs_VALVE : ("ValveRoom$Keyword", "VALVE", "LValveRoom$Keyword;", Value.ref (ab_CB + (112 + 10))) ∈ ab_st := by simp [ab_st]
theorem gs_BATTERY : ("ValveRoom$Keyword", "BATTERY", "LValveRoom$Keyword;", Value.ref (ab_CB + (112 + 11))) ∈ ab_st := by simp [ab_st]
theorem gs_OPEN : ("ValveRoom$Keyword", "OPEN", "LValveRoom$Keyword;", Value.ref (ab_CB + (112 + 14))) ∈ ab_st := by simp [ab_st]
theorem gs_CLOSE : ("ValveRoom$Keyword", "CLOSE", "LValveRoom$Keyword;", Value.ref (ab_CB + (112 + 15))) ∈ ab_st := by simp [ab_st]
theorem gs_COME : ("ValveRoom$Keyword", "COME", "LValveRoom$Keyword;", Value.ref (ab_CB + (112 + 16))) ∈ ab_st := by simp [ab_st]
theorem gs_GO : ("ValveRoom$Keyword", "GO", "LValveRoom$Keyword;", Value.ref (ab_CB + (112 + 17))) ∈ ab_st := by simp [ab_st]
theorem wd_ne {b : Nat → Int32} {N p i : Nat} (h : wd b N (kw i) p = true) : ¬ tk b N p = 0 := by
  rw [(wd_iff.mp h).1]
  decide
theorem pKind_lt {b : Nat → Int32} {N p k : Nat} (h : pKind b N p = .inr k) : k < 4 ∧ ¬ tk b N p = 0 := by
  unfold pKind at h
  by_cases h1 : wd b N (kw 14) p = true
  · rw [if_pos h1] at h
    exact ⟨by have := Sum.inr.inj h; omega, wd_ne h1⟩
  rw [if_neg h1] at h
  by_cases h2 : wd b N (kw 15) p = true
  · rw [if_pos h2] at h
    exact ⟨by have := Sum.inr.inj h; omega, wd_ne h2⟩
  rw [if_neg h2] at h
  by_cases h3 : wd b N (kw 16) p = true
  · rw [if_pos h3] at h
    exact ⟨by have := Sum.inr.inj h; omega, wd_ne h3⟩
  rw [if_neg h3] at h
  by_cases h4 : wd b N (kw 17) p = true
  · rw [if_pos h4] at h
    exact ⟨by have := Sum.inr.inj h; omega, wd_ne h4⟩
  rw [if_neg h4] at h
  exact absurd h (by simp)
def kNo (x : PR Nat) : Int32 := match x with
  | .inl _ => -1
  | .inr k => nI k
theorem px_planKindHere {P : (Nat → Int32) → Prop} {b : Nat → Int32} {N c n : Nat} {S : SS} {t told : Nat} {δ : Nat → Int32} {nf : Nat → Nat → Int32} {nl : Nat → Nat} (hn : 269 ≤ n) (h : CSg P b N c n S t told δ nf nl) : AM yX3_planKindHere cX3_planKindHere 1 (some .int) [] 1 0 0 [.ref 1] n (Hp S) (PI (kNo (pKind b N (pos b N t))) n S) := by
  intro has
  change WA RX3 cX3_planKindHere 1 [] _ _ 0 0 0 [some (.ref 1)] [] n _
  have ht := h.tL
  have hc := h.cL
  by_cases h0 : wd b N (kw 14) (pos b N t) = true
  · skip
    refine wa_aload_n dX3_planKindHere_0 rfl ?_
    refine wa_gets dX3_planKindHere_1 gs_OPEN fl_X3_267 (Or.inr (Nat.le_add_right _ _)) ?_
    refine c_VI dX3_planKindHere_4 (px_isKeyword hn h (i := 14) (by decide)) lk_X3_93 rfl (isO_PA _ _ _) rfl (ltS hn) ?_
    rw [b2i_1 h0]
    refine wa_if_eq 12 dX3_planKindHere_7 rfl (fun c7 => absurd c7 (by decide)) (fun c7 => ?_)
    refine wa_iconst (x := 0) dX3_planKindHere_10 (by decide) ?_
    exact wa_ireturn dX3_planKindHere_11 ⟨Nat.le_refl _, Nat.le_refl _, ⟨_, rfl, rfl⟩, (by unfold pKind; rw [if_pos h0]; rfl), rfl, rfl⟩
  by_cases h1 : wd b N (kw 15) (pos b N t) = true
  · skip
    refine wa_aload_n dX3_planKindHere_0 rfl ?_
    refine wa_gets dX3_planKindHere_1 gs_OPEN fl_X3_267 (Or.inr (Nat.le_add_right _ _)) ?_
    refine c_VI dX3_planKindHere_4 (px_isKeyword hn h (i := 14) (by decide)) lk_X3_93 rfl (isO_PA _ _ _) rfl (ltS hn) ?_
    rw [b2i_0 h0]
    refine wa_if_eq 12 dX3_planKindHere_7 rfl (fun c7 => ?_) (fun c7 => absurd rfl c7)
    refine wa_aload_n dX3_planKindHere_12 rfl ?_
    refine wa_gets dX3_planKindHere_13 gs_CLOSE fl_X3_270 (Or.inr (Nat.le_add_right _ _)) ?_
    refine c_VI dX3_planKindHere_16 (px_isKeyword hn h (i := 15) (by decide)) lk_X3_93 rfl (isO_PA _ _ _) rfl (ltS hn) ?_
    rw [b2i_1 h1]
    refine wa_if_eq 24 dX3_planKindHere_19 rfl (fun c19 => absurd c19 (by decide)) (fun c19 => ?_)
    refine wa_iconst (x := 1) dX3_planKindHere_22 (by decide) ?_
    exact wa_ireturn dX3_planKindHere_23 ⟨Nat.le_refl _, Nat.le_refl _, ⟨_, rfl, rfl⟩, (by unfold pKind; rw [if_neg h0, if_pos h1]; rfl), rfl, rfl⟩
  by_cases h2 : wd b N (kw 16) (pos b N t) = true
  · skip
    refine wa_aload_n dX3_planKindHere_0 rfl ?_
    refine wa_gets dX3_planKindHere_1 gs_OPEN fl_X3_267 (Or.inr (Nat.le_add_right _ _)) ?_
    refine c_VI dX3_planKindHere_4 (px_isKeyword hn h (i := 14) (by decide)) lk_X3_93 rfl (isO_PA _ _ _) rfl (ltS hn) ?_
    rw [b2i_0 h0]
    refine wa_if_eq 12 dX3_planKindHere_7 rfl (fun c7 => ?_) (fun c7 => absurd rfl c7)
    refine wa_aload_n dX3_planKindHere_12 rfl ?_
    refine wa_gets dX3_planKindHere_13 gs_CLOSE fl_X3_270 (Or.inr (Nat.le_add_right _ _)) ?_
    refine c_VI dX3_planKindHere_16 (px_isKeyword hn h (i := 15) (by decide)) lk_X3_93 rfl (isO_PA _ _ _) rfl (ltS hn) ?_
    rw [b2i_0 h1]
    refine wa_if_eq 24 dX3_planKindHere_19 rfl (fun c19 => ?_) (fun c19 => absurd rfl c19)
    refine wa_aload_n dX3_planKindHere_24 rfl ?_
    refine wa_gets dX3_planKindHere_25 gs_COME fl_X3_273 (Or.inr (Nat.le_add_right _ _)) ?_
    refine c_VI dX3_planKindHere_28 (px_isKeyword hn h (i := 16) (by decide)) lk_X3_93 rfl (isO_PA _ _ _) rfl (ltS hn) ?_
    rw [b2i_1 h2]
    refine wa_if_eq 36 dX3_planKindHere_31 rfl (fun c31 => absurd c31 (by decide)) (fun c31 => ?_)
    refine wa_iconst (x := 2) dX3_planKindHere_34 (by decide) ?_
    exact wa_ireturn dX3_planKindHere_35 ⟨Nat.le_refl _, Nat.le_refl _, ⟨_, rfl, rfl⟩, (by unfold pKind; rw [if_neg h0, if_neg h1, if_pos h2]; rfl), rfl, rfl⟩
  by_cases h3 : wd b N (kw 17) (pos b N t) = true
  · skip
    refine wa_aload_n dX3_planKindHere_0 rfl ?_
    refine wa_gets dX3_planKindHere_1 gs_OPEN fl_X3_267 (Or.inr (Nat.le_add_right _ _)) ?_
    refine c_VI dX3_planKindHere_4 (px_isKeyword hn h (i := 14) (by decide)) lk_X3_93 rfl (isO_PA _ _ _) rfl (ltS hn) ?_
    rw [b2i_0 h0]
    refine wa_if_eq 12 dX3_planKindHere_7 rfl (fun c7 => ?_) (fun c7 => absurd rfl c7)
    refine wa_aload_n dX3_planKindHere_12 rfl ?_
    refine wa_gets dX3_planKindHere_13 gs_CLOSE fl_X3_270 (Or.inr (Nat.le_add_right _ _)) ?_
    refine c_VI dX3_planKindHere_16 (px_isKeyword hn h (i := 15) (by decide)) lk_X3_93 rfl (isO_PA _ _ _) rfl (ltS hn) ?_
    rw [b2i_0 h1]
    refine wa_if_eq 24 dX3_planKindHere_19 rfl (fun c19 => ?_) (fun c19 => absurd rfl c19)
    refine wa_aload_n dX3_planKindHere_24 rfl ?_
    refine wa_gets dX3_planKindHere_25 gs_COME fl_X3_273 (Or.inr (Nat.le_add_right _ _)) ?_
    refine c_VI dX3_planKindHere_28 (px_isKeyword hn h (i := 16) (by decide)) lk_X3_93 rfl (isO_PA _ _ _) rfl (ltS hn) ?_
    rw [b2i_0 h2]
    refine wa_if_eq 36 dX3_planKindHere_31 rfl (fun c31 => ?_) (fun c31 => absurd rfl c31)
    refine wa_aload_n dX3_planKindHere_36 rfl ?_
    refine wa_gets dX3_planKindHere_37 gs_GO fl_X3_276 (Or.inr (Nat.le_add_right _ _)) ?_
    refine c_VI dX3_planKindHere_40 (px_isKeyword hn h (i := 17) (by decide)) lk_X3_93 rfl (isO_PA _ _ _) rfl (ltS hn) ?_
    rw [b2i_1 h3]
    refine wa_if_eq 50 dX3_planKindHere_43 rfl (fun c43 => absurd c43 (by decide)) (fun c43 => ?_)
    refine wa_iconst (x := 3) dX3_planKindHere_46 (by decide) ?_
    refine wa_goto 51 dX3_planKindHere_47 rfl ?_
    exact wa_ireturn dX3_planKindHere_51 ⟨Nat.le_refl _, Nat.le_refl _, ⟨_, rfl, rfl⟩, (by unfold pKind; rw [if_neg h0, if_neg h1, if_neg h2, if_pos h3]; rfl), rfl, rfl⟩
  refine wa_aload_n dX3_planKindHere_0 rfl ?_
  refine wa_gets dX3_planKindHere_1 gs_OPEN fl_X3_267 (Or.inr (Nat.le_add_right _ _)) ?_
  refine c_VI dX3_planKindHere_4 (px_isKeyword hn h (i := 14) (by decide)) lk_X3_93 rfl (isO_PA _ _ _) rfl (ltS hn) ?_
  rw [b2i_0 h0]
  refine wa_if_eq 12 dX3_planKindHere_7 rfl (fun c7 => ?_) (fun c7 => absurd rfl c7)
  refine wa_aload_n dX3_planKindHere_12 rfl ?_
  refine wa_gets dX3_planKindHere_13 gs_CLOSE fl_X3_270 (Or.inr (Nat.le_add_right _ _)) ?_
  refine c_VI dX3_planKindHere_16 (px_isKeyword hn h (i := 15) (by decide)) lk_X3_93 rfl (isO_PA _ _ _) rfl (ltS hn) ?_
  rw [b2i_0 h1]
  refine wa_if_eq 24 dX3_planKindHere_19 rfl (fun c19 => ?_) (fun c19 => absurd rfl c19)
  refine wa_aload_n dX3_planKindHere_24 rfl ?_
  refine wa_gets dX3_planKindHere_25 gs_COME fl_X3_273 (Or.inr (Nat.le_add_right _ _)) ?_
  refine c_VI dX3_planKindHere_28 (px_isKeyword hn h (i := 16) (by decide)) lk_X3_93 rfl (isO_PA _ _ _) rfl (ltS hn) ?_
  rw [b2i_0 h2]
  refine wa_if_eq 36 dX3_planKindHere_31 rfl (fun c31 => ?_) (fun c31 => absurd rfl c31)
  refine wa_aload_n dX3_planKindHere_36 rfl ?_
  refine wa_gets dX3_planKindHere_37 gs_GO fl_X3_276 (Or.inr (Nat.le_add_right _ _)) ?_
  refine c_VI dX3_planKindHere_40 (px_isKeyword hn h (i := 17) (by decide)) lk_X3_93 rfl (isO_PA _ _ _) rfl (ltS hn) ?_
  rw [b2i_0 h3]
  refine wa_if_eq 50 dX3_planKindHere_43 rfl (fun c43 => ?_) (fun c43 => absurd rfl c43)
  refine wa_iconst (x := (-1)) dX3_planKindHere_50 (by decide) ?_
  exact wa_ireturn dX3_planKindHere_51 ⟨Nat.le_refl _, Nat.le_refl _, ⟨_, rfl, rfl⟩, (by unfold pKind; rw [if_neg h0, if_neg h1, if_neg h2, if_neg h3]; rfl), rfl, rfl⟩
theorem let_tok {b : Nat → Int32} {N p : Nat} (h : tk b N p = 1) : LET b p (te b N p - p) ∧ 0 < te b N p - p := by
  have hp : p < N := tk_lt (by rw [h]; decide)
  have h0 : kd (b p) = 1 := by
    unfold tk at h
    rw [if_pos hp] at h
    exact h
  have hg := te_gt (b := b) hp
  refine ⟨fun j hj => ?_, by omega⟩
  by_cases e : j = 0
  · subst e
    exact kd_1.mp h0
  · exact kd_1.mp ((te_in (b := b) (N := N) (p := p) (i := p + j) (by omega) (by omega)).2.1.trans h0)
theorem num_rnm {b : Nat → Int32} {N p : Nat} {g : Nat → Int32} {nf : Nat → Nat → Int32} {nl : Nat → Nat} (h : NMR g nf nl) (hi : isNm b N p = true) : fst (fun i => SPL b p (te b N p - p) (nf i) (nl i)) (rn g) 0 = rnm g (nmo b p (te b N p - p)) := by
  obtain ⟨h1, h2, -⟩ := isNm_iff.mp hi
  obtain ⟨hL, h0⟩ := let_tok h1
  unfold rnm
  refine fst_cg _ _ (fun i _ hr => ?_)
  rw [spl_nm h (by omega) h2 hL]
  exact ⟨fun e => ⟨nmo_pos h2 h0 hL, e⟩, fun e => e.2⟩
/-- what a look for a known room leaves -/
def KR (b : Nat → Int32) (N t : Nat) (S0 : SS) (δ : Nat → Int32) (v : Int32) (S' : SS) : Prop := FRps S0 S' ∧ ((∃ r, pRoom b N δ (pos b N t) = .inr r ∧ v = nI r ∧ r < rn δ ∧ S' = S0 ∧ ¬ tk b N (pos b N t) = 0) ∨ ∃ e, pRoom b N δ (pos b N t) = .inl e ∧ v = -1 ∧ ERR e S')
theorem pRoom_no {b : Nat → Int32} {N p : Nat} {g : Nat → Int32} (h : ¬ isNm b N p = true) : pRoom b N g p = .inl (1, p) := by
  unfold pRoom pName
  rw [if_neg h]
  rfl
theorem pRoom_un {b : Nat → Int32} {N p : Nat} {g : Nat → Int32} (h : isNm b N p = true) (e : rnm g (nmo b p (te b N p - p)) = -1) : pRoom b N g p = .inl (4, p) := by
  unfold pRoom pName
  rw [if_pos h]
  exact if_pos e
theorem pRoom_in {b : Nat → Int32} {N p i : Nat} {g : Nat → Int32} (h : isNm b N p = true) (e : rnm g (nmo b p (te b N p - p)) = nI i) (hi : i < 2 ^ 31) : pRoom b N g p = .inr i := by
  unfold pRoom pName
  rw [if_pos h]
  refine (if_neg (by rw [e]; exact nI_m1 hi)).trans ?_
  rw [e, nI_toInt hi]
  rfl
theorem hbe_text {P : (Nat → Int32) → Prop} {b : Nat → Int32} {N c n : Nat} {S : SS} {t told : Nat} {δ : Nat → Int32} {nf : Nat → Nat → Int32} {nl : Nat → Nat} (h : CSg P b N c n S t told δ nf nl) : Hp S 2 = .inl (1, 500, .inl b) := by
  rw [← h.bE]
  rfl
theorem pos_N (b : Nat → Int32) (N : Nat) : ∀ t, pos b N t ≤ N
  | 0 => run_le (Nat.zero_le _)
  | t + 1 => run_le (te_le (pos_N b N t))
theorem tok_500 {P : (Nat → Int32) → Prop} {b : Nat → Int32} {N c n : Nat} {S : SS} {t told : Nat} {δ : Nat → Int32} {nf : Nat → Nat → Int32} {nl : Nat → Nat} (h : CSg P b N c n S t told δ nf nl) : pos b N t + (te b N (pos b N t) - pos b N t) ≤ 500 := by
  have h1 := te_le (b := b) (pos_N b N t)
  have h2 := te_ge b N (pos b N t)
  have := h.NL
  omega
theorem px_knownRoomHere {b : Nat → Int32} {N c n : Nat} {S : SS} {t told : Nat} {δ : Nat → Int32} {nf : Nat → Nat → Int32} {nl : Nat → Nat} (hn : 269 ≤ n) (h : CS b N c n S t told δ nf nl) : AM yX3_knownRoomHere cX3_knownRoomHere 2 (some .int) [] 6 0 0 [.ref 1] n (Hp S) (PIe n (fun v S' => KR b N t S δ v S')) := by
  intro has
  change WA RX3 cX3_knownRoomHere 2 [] _ _ 0 0 0 [some (.ref 1), none] [] n _
  have ht := h.tL
  have hc := h.cL
  by_cases hs : isNm b N (pos b N t) = true
  · have hk0 : ¬ tk b N (pos b N t) = 0 := by rw [(isNm_iff.mp hs).1]; decide
    obtain e | ⟨i, hi, e⟩ := rnm_cases δ (nmo b (pos b N t) (te b N (pos b N t) - pos b N t))
    · skip
      refine wa_aload_n dX3_knownRoomHere_0 rfl ?_
      refine c_VI dX3_knownRoomHere_1 (px_isName hn h) lk_X3_184 rfl (isO_PA _ _ _) rfl (ltS hn) ?_
      rw [b2i_1 hs]
      refine wa_if_ne 15 dX3_knownRoomHere_4 rfl (fun c4 => ?_) (fun c4 => absurd c4 (by decide))
      refine wa_aload_n dX3_knownRoomHere_15 rfl ?_
      refine g_PA (by assumption) 2 dX3_knownRoomHere_16 fl_X3_18 (by decide) rfl ?_
      refine wa_aload_n dX3_knownRoomHere_19 rfl ?_
      refine g_PA (by assumption) 0 dX3_knownRoomHere_20 fl_X3_9 (by decide) rfl ?_
      refine wa_aload_n dX3_knownRoomHere_23 rfl ?_
      refine g_PA (by assumption) 5 dX3_knownRoomHere_24 fl_X3_25 (by decide) rfl ?_
      refine g_TO (by assumption) 2 dX3_knownRoomHere_27 fl_X3_70 (by decide) rfl ?_
      refine wa_aload_n dX3_knownRoomHere_30 rfl ?_
      refine g_PA hn 6 dX3_knownRoomHere_31 fl_X3_37 (by decide) (v := .int (nI t)) (congrArg (fun x => some (Value.int x)) h.a) ?_
      refine s_iald (j := t) isA_starts dX3_knownRoomHere_34 (ltS hn) (ix_nI (by omega)) (by omega) ?_
      rw [h.st]
      refine wa_aload_n dX3_knownRoomHere_35 rfl ?_
      refine g_PA (by assumption) 5 dX3_knownRoomHere_36 fl_X3_25 (by decide) rfl ?_
      refine g_TO (by assumption) 3 dX3_knownRoomHere_39 fl_X3_84 (by decide) rfl ?_
      refine wa_aload_n dX3_knownRoomHere_42 rfl ?_
      refine g_PA hn 6 dX3_knownRoomHere_43 fl_X3_37 (by decide) (v := .int (nI t)) (congrArg (fun x => some (Value.int x)) h.a) ?_
      refine s_iald (j := t) isA_lengths dX3_knownRoomHere_46 (ltS hn) (ix_nI (by omega)) (by omega) ?_
      rw [h.ln]
      refine c_VI dX3_knownRoomHere_47 (hh_numberOf (p := pos b N t) (l := te b N (pos b N t) - pos b N t) (L := 500) (f := b) hn h.hh h.gg.1.e0 h.nx.nms (Or.inl (ltS hn)) (hbe_text h) (by decide) (tok_500 h)) lk_X3_187 rfl (isH.HO isH_draft _ _ _) rfl (lt_HO isH_draft hn) ?_
      rw [num_rnm h.nr hs]
      refine wa_istore_n dX3_knownRoomHere_50 rfl ?_
      rw [e]
      refine wa_iload_n dX3_knownRoomHere_51 rfl ?_
      refine wa_iconst (x := (-1)) dX3_knownRoomHere_52 (by decide) ?_
      refine wa_icmp_ne 62 dX3_knownRoomHere_53 rfl (fun c53 => absurd rfl c53) (fun c53 => ?_)
      refine wa_aload_n dX3_knownRoomHere_56 rfl ?_
      refine wa_iconst (x := 4) dX3_knownRoomHere_57 (by decide) ?_
      refine c_VI dX3_knownRoomHere_58 (px_fail (S := S) hn h 4) lk_X3_56 rfl (isO_PA _ _ _) rfl (ltS hn) ?_
      refine wa_pop dX3_knownRoomHere_61 rfl ?_
      refine wa_iload_n dX3_knownRoomHere_62 rfl ?_
      exact wa_ireturn dX3_knownRoomHere_63 ⟨Nat.le_refl _, Nat.le_refl _, ⟨_, rfl, rfl⟩, rfl, _, _, rfl, rfl, fail_fr FRps.rf _ _, Or.inr ⟨_, pRoom_un hs e, rfl, fail_err _ _ _⟩⟩
    · have h6 := h.gg.1.rn6
      refine wa_aload_n dX3_knownRoomHere_0 rfl ?_
      refine c_VI dX3_knownRoomHere_1 (px_isName hn h) lk_X3_184 rfl (isO_PA _ _ _) rfl (ltS hn) ?_
      rw [b2i_1 hs]
      refine wa_if_ne 15 dX3_knownRoomHere_4 rfl (fun c4 => ?_) (fun c4 => absurd c4 (by decide))
      refine wa_aload_n dX3_knownRoomHere_15 rfl ?_
      refine g_PA (by assumption) 2 dX3_knownRoomHere_16 fl_X3_18 (by decide) rfl ?_
      refine wa_aload_n dX3_knownRoomHere_19 rfl ?_
      refine g_PA (by assumption) 0 dX3_knownRoomHere_20 fl_X3_9 (by decide) rfl ?_
      refine wa_aload_n dX3_knownRoomHere_23 rfl ?_
      refine g_PA (by assumption) 5 dX3_knownRoomHere_24 fl_X3_25 (by decide) rfl ?_
      refine g_TO (by assumption) 2 dX3_knownRoomHere_27 fl_X3_70 (by decide) rfl ?_
      refine wa_aload_n dX3_knownRoomHere_30 rfl ?_
      refine g_PA hn 6 dX3_knownRoomHere_31 fl_X3_37 (by decide) (v := .int (nI t)) (congrArg (fun x => some (Value.int x)) h.a) ?_
      refine s_iald (j := t) isA_starts dX3_knownRoomHere_34 (ltS hn) (ix_nI (by omega)) (by omega) ?_
      rw [h.st]
      refine wa_aload_n dX3_knownRoomHere_35 rfl ?_
      refine g_PA (by assumption) 5 dX3_knownRoomHere_36 fl_X3_25 (by decide) rfl ?_
      refine g_TO (by assumption) 3 dX3_knownRoomHere_39 fl_X3_84 (by decide) rfl ?_
      refine wa_aload_n dX3_knownRoomHere_42 rfl ?_
      refine g_PA hn 6 dX3_knownRoomHere_43 fl_X3_37 (by decide) (v := .int (nI t)) (congrArg (fun x => some (Value.int x)) h.a) ?_
      refine s_iald (j := t) isA_lengths dX3_knownRoomHere_46 (ltS hn) (ix_nI (by omega)) (by omega) ?_
      rw [h.ln]
      refine c_VI dX3_knownRoomHere_47 (hh_numberOf (p := pos b N t) (l := te b N (pos b N t) - pos b N t) (L := 500) (f := b) hn h.hh h.gg.1.e0 h.nx.nms (Or.inl (ltS hn)) (hbe_text h) (by decide) (tok_500 h)) lk_X3_187 rfl (isH.HO isH_draft _ _ _) rfl (lt_HO isH_draft hn) ?_
      rw [num_rnm h.nr hs]
      refine wa_istore_n dX3_knownRoomHere_50 rfl ?_
      rw [e]
      refine wa_iload_n dX3_knownRoomHere_51 rfl ?_
      refine wa_iconst (x := (-1)) dX3_knownRoomHere_52 (by decide) ?_
      refine wa_icmp_ne 62 dX3_knownRoomHere_53 rfl (fun c53 => ?_) (fun c53 => absurd c53 (nI_m1 (b := i) (by omega)))
      refine wa_iload_n dX3_knownRoomHere_62 rfl ?_
      exact wa_ireturn dX3_knownRoomHere_63 ⟨Nat.le_refl _, Nat.le_refl _, ⟨_, rfl, rfl⟩, rfl, _, _, rfl, rfl, FRps.rf, Or.inl ⟨i, pRoom_in hs e (by omega), rfl, hi, rfl, hk0⟩⟩
  · skip
    refine wa_aload_n dX3_knownRoomHere_0 rfl ?_
    refine c_VI dX3_knownRoomHere_1 (px_isName hn h) lk_X3_184 rfl (isO_PA _ _ _) rfl (ltS hn) ?_
    rw [b2i_0 hs]
    refine wa_if_ne 15 dX3_knownRoomHere_4 rfl (fun c4 => absurd rfl c4) (fun c4 => ?_)
    refine wa_aload_n dX3_knownRoomHere_7 rfl ?_
    refine wa_iconst (x := 1) dX3_knownRoomHere_8 (by decide) ?_
    refine c_VI dX3_knownRoomHere_9 (px_fail (S := S) hn h 1) lk_X3_56 rfl (isO_PA _ _ _) rfl (ltS hn) ?_
    refine wa_pop dX3_knownRoomHere_12 rfl ?_
    refine wa_iconst (x := (-1)) dX3_knownRoomHere_13 (by decide) ?_
    exact wa_ireturn dX3_knownRoomHere_14 ⟨Nat.le_refl _, Nat.le_refl _, ⟨_, rfl, rfl⟩, rfl, _, _, rfl, rfl, fail_fr FRps.rf _ _, Or.inr ⟨_, pRoom_no hs, rfl, fail_err _ _ _⟩⟩

