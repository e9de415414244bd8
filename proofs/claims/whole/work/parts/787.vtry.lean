/-! ValveRoom: what would be, tried in a House of its own. Written by program (wip/whole/gen/m787.py) but for the heads. -/
theorem HH.wk {S : SS} {a : Nat} {g : Nat → Int32} {P P' : Nat → Prop} (h : HH S a g P) (hp : ∀ i, P' i → P i) : HH S a g P' := by
  refine ⟨h.1, h.2.1, h.2.2.1, fun i hi => ?_⟩
  obtain ⟨γ, h1, h2, h3⟩ := h.2.2.2 i hi
  exact ⟨γ, h1, h2, fun q => h3 (hp i q)⟩
theorem HH.lvP {S : SS} {a i : Nat} {g : Nat → Int32} {P : Nat → Prop} (h : HH S a g P) (hi : i < rn g) (hp : P i) : LV S S a (a + 5 + 3 * i) g i := by
  obtain ⟨γ, -, g2, hl⟩ := h.lv hi
  exact ⟨hl.1, hl.2.1, hl.2.2.1, hl.2.2.2.1, h.2.1, RR_rst (g2 hp) hl.2.2.2.2.2⟩
/-- a House's cells unchanged -/
theorem HH.of {S S' : SS} {a : Nat} {g : Nat → Int32} {P : Nat → Prop} (h : HH S a g P) (e : ∀ k, a ≤ k → k < a + 23 → S'.1 k = S.1 k) : HH S' a g P := by
  refine h.hdr (fun k h1 h2 => e k (by omega) h2) (fun _ _ => rfl) rfl h.1.2.2 (fun j hj hj2 => ?_) (fun k hk => ?_)
  · rw [e a (by omega) (by omega)]
    exact h.2.1 j hj hj2
  · rw [e (a + 2) (by omega) (by omega), e (a + 3) (by omega) (by omega), e (a + 4) (by omega) (by omega)]
    exact h.2.2.1 k hk
theorem FRc.rf {a : Nat} {S : SS} : FRc a S S := ⟨rfl, fun _ _ => ⟨rfl, rfl⟩⟩
theorem FRc.tr {a : Nat} {S0 S1 S2 : SS} (h1 : FRc a S0 S1) (h2 : FRc a S1 S2) : FRc a S0 S2 := ⟨h2.1.trans h1.1, fun x hx => ⟨(h2.2 x hx).1.trans (h1.2 x hx).1, (h2.2 x hx).2.trans (h1.2 x hx).2⟩⟩
theorem FRh.c {a : Nat} {S0 S1 : SS} (h : FRh a S0 S1) : FRc a S0 S1 := ⟨by rw [h.1], fun x hx => ⟨h.2 x hx, by rw [h.1]⟩⟩
theorem HH.frc {S S' : SS} {a b : Nat} {g : Nat → Int32} {P : Nat → Prop} (h : HH S a g P) (hf : FRc b S S') (hd : a + 23 ≤ b ∨ b + 23 ≤ a) : HH S' a g P := h.of (fun k h1 h2 => (hf.2 k (by omega)).1)
theorem GG_ticks {T : Int} {g : Nat → Int32} (h : GG T g) : ∀ k : Nat, T + k ≤ 200001 → GG (T + k) (ticksN g k)
  | 0, _ => by
    have e : T + ((0 : Nat) : Int) = T := by omega
    rw [e]
    exact h
  | k + 1, hk => by
    have h1 := (GG_tick (GG_ticks h k (by omega)) (by omega)).1
    have e : T + (k : Int) + 1 = T + ((k + 1 : Nat) : Int) := by omega
    rw [e] at h1
    exact h1
theorem GG_upd {T : Int} {g : Nat → Int32} {j : Nat} (x : Int32) (h : GG T g) (h0 : ¬ j = 0) (h1 : ¬ j = 1) (h3 : ¬ j = 3) (h11 : j < 11) (hH : GH (upd g j x)) : GG T (upd g j x) := by
  have ep : pn (upd g j x) = pn g := pn_cg (upd_o (fun z => h3 z.symm))
  have er : rn (upd g j x) = rn g := rn_cg (upd_o (fun z => h0 z.symm))
  refine ⟨upd_hdr x h.1 h0 h1 h3 h11, hH, fun k hk => ?_, fun k hk => ?_, fun i hi => ?_⟩
  · rw [er, upd_o (by omega), upd_o (by omega)]
    exact h.2.2.1 k (by rw [← ep]; exact hk)
  · rw [upd_o (by omega)]
    exact h.2.2.2.1 k (by rw [← ep]; exact hk)
  · exact (h.2.2.2.2 i (by rw [← er]; exact hi)).cg (fun w _ => upd_o (by omega))
theorem GH_2 {g : Nat → Int32} {x : Int32} (h : GH g) (hx : -300 ≤ x.toInt ∧ x.toInt ≤ 400) : GH (upd g 2 x) := by
  unfold GH
  rw [upd_e, upd_o (k := 4) (by decide), upd_o (k := 5) (by decide), upd_o (k := 6) (by decide), upd_o (k := 7) (by decide), upd_o (k := 8) (by decide), upd_o (k := 9) (by decide), upd_o (k := 10) (by decide)]
  exact ⟨hx, h.2⟩
theorem GH_7 {g : Nat → Int32} {x : Int32} (h : GH g) (hx : 0 ≤ x.toInt ∧ x.toInt ≤ 50) : GH (upd g 7 x) := by
  unfold GH
  rw [upd_e, upd_o (k := 2) (by decide), upd_o (k := 4) (by decide), upd_o (k := 5) (by decide), upd_o (k := 6) (by decide), upd_o (k := 8) (by decide), upd_o (k := 9) (by decide), upd_o (k := 10) (by decide)]
  exact ⟨h.1, h.2.1, h.2.2.1, h.2.2.2.1, hx, h.2.2.2.2.2⟩
theorem GH_8 {g : Nat → Int32} {x : Int32} (h : GH g) (hx : 1 ≤ x.toInt ∧ x.toInt ≤ 50) : GH (upd g 8 x) := by
  unfold GH
  rw [upd_e, upd_o (k := 2) (by decide), upd_o (k := 4) (by decide), upd_o (k := 5) (by decide), upd_o (k := 6) (by decide), upd_o (k := 7) (by decide), upd_o (k := 9) (by decide), upd_o (k := 10) (by decide)]
  exact ⟨h.1, h.2.1, h.2.2.1, h.2.2.2.1, h.2.2.2.2.1, hx, h.2.2.2.2.2.2⟩
theorem GH_9 {g : Nat → Int32} {x : Int32} (h : GH g) (hx : 1 ≤ x.toInt ∧ x.toInt ≤ 100) : GH (upd g 9 x) := by
  unfold GH
  rw [upd_e, upd_o (k := 2) (by decide), upd_o (k := 4) (by decide), upd_o (k := 5) (by decide), upd_o (k := 6) (by decide), upd_o (k := 7) (by decide), upd_o (k := 8) (by decide), upd_o (k := 10) (by decide)]
  exact ⟨h.1, h.2.1, h.2.2.1, h.2.2.2.1, h.2.2.2.2.1, h.2.2.2.2.2.1, hx, h.2.2.2.2.2.2.2⟩
theorem GG_room {T : Int} {g g' : Nat → Int32} (h : GG T g) (hk : kp g g') (hR : ∀ j, j < rn g → GR T T g' j) : GG T g' := by
  have ep : pn g' = pn g := pn_cg (hk.2 3 (by decide))
  have er : rn g' = rn g := rn_cg (hk.2 0 (by decide))
  have h20 := h.pn20
  refine ⟨VG_kp h.1 hk, h.2.1.kp hk, fun k q => ?_, fun k q => ?_, fun i hi => hR i (by rw [← er]; exact hi)⟩
  · rw [ep] at q
    rw [er, hk.2 _ (by omega), hk.2 _ (by omega)]
    exact h.2.2.1 k q
  · rw [ep] at q
    rw [hk.2 _ (by omega)]
    exact h.2.2.2.1 k q
/-- one number of one room -/
theorem GG_pt {T : Int} {g : Nat → Int32} {i w : Nat} (x : Int32) (h : GG T g) (hw : w < 18) (hR : i < rn g → GR T T (pt g i w x) i) : GG T (pt g i w x) := by
  refine GG_room h (kp_pt g i x hw) (fun j hj => ?_)
  by_cases e : j = i
  · subst e
    exact hR hj
  · exact GR_rst (pt_oth e g x (by omega)) (h.2.2.2.2 j hj)
theorem GR_pt5 {T U : Int} {g : Nat → Int32} {i : Nat} (x : Int32) (h : GR T U g i) (hx : x = 0 ∨ x = 1) : GR T U (pt g i 5 x) i := by
  refine ⟨?_, by rw [of_ptS]; exact h.2.up (by decide)⟩
  have e5 := congrFun (of_ptS g i 5 x)
  unfold RG
  rw [e5 1, e5 2, e5 5, e5 6, upd_e, upd_o (k := 1) (by decide), upd_o (k := 2) (by decide), upd_o (k := 6) (by decide)]
  exact ⟨h.1.1, h.1.2.1, hx, h.1.2.2.2⟩
theorem vr_startTrial {n : Nat} {S : SS} {g : Nat → Int32} {T : Int} (hn : 279 ≤ n) (h : HH S 34 g (fun _ => True)) (hg : GG T g) : AM yX6_startTrial cX6_startTrial 1 none [] 2 0 0 [.ref 0] n (Hp S) (PVe n (fun S' => HH S' 57 g (fun _ => True) ∧ FRc 57 S S')) := by
  intro has
  change WA RX6 cX6_startTrial 1 [] _ _ 0 0 0 [some (.ref 0)] [] n _
  refine wa_aload_n dX6_startTrial_0 rfl ?_
  refine g_VR (by assumption) 5 dX6_startTrial_1 fl_X6_30 (by decide) rfl ?_
  refine wa_aload_n dX6_startTrial_4 rfl ?_
  refine g_VR (by assumption) 4 dX6_startTrial_5 fl_X6_26 (by decide) rfl ?_
  refine c_VQV dX6_startTrial_8 (hh_hcopy hn isH_trial (by decide) h hg.e0 (fun i hi => ⟨hg.opn hi, hg.pre hi⟩)) lk_X6_85 rfl (isH.HO isH_trial _ _ _) rfl (lt_HO isH_trial hn) (fun S1 q1 => ?_)
  exact wa_return dX6_startTrial_11 ⟨Nat.le_refl _, Nat.le_refl _, rfl, rfl, rfl, _, rfl, q1.1, q1.2.1⟩
theorem lp_try {Q : ab_Q} {n j N : Nat} {S0 : SS} {g : Nat → Int32} {T : Int} (hn : 279 ≤ n) (hg : GG T g) (hj : j < rn g) (hN : N < 2147483647) (hT : T + N ≤ 200000) :
    ∀ (r k : Nat) (S1 : SS), k + r = N → HH S1 57 (ticksN g k) (fun i => i = j) → FRc 57 S0 S1 → (∀ S', HH S' 57 (ticksN g (N)) (fun i => i = j) → FRc 57 S0 S' → WA RX6 cX6_tryTicks 4 [] (ab_rm 7 0 0) Q 0 0 21 [some (.ref 0), some (.int (nI j)), some (.int (nI N)), some (.int (nI (N)))] [] n (Hp S')) → WA RX6 cX6_tryTicks 4 [] (ab_rm 7 0 0) Q 0 0 2 [some (.ref 0), some (.int (nI j)), some (.int (nI N)), some (.int (nI (k)))] [] n (Hp S1) := by
  intro r
  induction r with
  | zero =>
    intro k S1 hk h hfr hQ
    have hk2 : k = N := by omega

    refine wa_iload_n dX6_tryTicks_2 rfl ?_
    refine wa_iload_n dX6_tryTicks_3 rfl ?_
    refine wa_icmp_ge 21 dX6_tryTicks_4 rfl (fun c4 => ?_) (fun c4 => absurd (by rw [hk2]; exact Int32.le_refl _) c4)
    rw [hk2] at h ⊢
    exact hQ S1 h hfr
  | succ r ih =>
    intro k S1 hk h hfr hQ
    have hgk := GG_ticks hg k (by omega)
    have okk := (GG_tick hgk (by omega)).2
    have hj6 : j < 6 := by have := hg.rn6; omega
    refine wa_iload_n dX6_tryTicks_2 rfl ?_
    refine wa_iload_n dX6_tryTicks_3 rfl ?_
    refine wa_icmp_ge 21 dX6_tryTicks_4 rfl (fun c4 => absurd c4 (nI_ge (by omega) (by omega))) (fun c4 => ?_)
    refine wa_aload_n dX6_tryTicks_7 rfl ?_
    refine g_VR (by assumption) 5 dX6_tryTicks_8 fl_X6_30 (by decide) rfl ?_
    refine wa_iload_n dX6_tryTicks_11 rfl ?_
    refine c_VQV dX6_tryTicks_12 (hh_passTickIn hn h (by rw [rn_ticks]; exact hj) hgk.e3 hgk.2.2.1 (okk j (by rw [rn_ticks]; exact hj))) lk_X6_235 rfl (isH.HO isH_trial _ _ _) rfl (lt_HO isH_trial hn) (fun S2 q2 => ?_)
    refine wa_iinc (y := 1) dX6_tryTicks_15 rfl (by decide) rfl ?_
    refine wa_goto 2 dX6_tryTicks_18 rfl ?_
    rw [nI_1 k]
    exact ih (k + 1) S2 (by omega) q2.1 (hfr.tr q2.2.c) hQ
theorem vr_tryTicks {n j N : Nat} {S : SS} {g : Nat → Int32} {T : Int} (hn : 279 ≤ n) (hg : GG T g) (hj : j < rn g) (hN : N < 2147483647) (hT : T + N ≤ 200000) (h : HH S 57 g (fun i => i = j)) : AM yX6_tryTicks cX6_tryTicks 4 (some (.object "ValveRoom$Room")) [] 7 0 0 [.ref 0, .int (nI j), .int (nI N)] n (Hp S) (QA (.ref (57 + 5 + 3 * j)) n (fun S' => HH S' 57 (ticksN g N) (fun i => i = j) ∧ FRc 57 S S')) := by
  intro has
  change WA RX6 cX6_tryTicks 4 [] _ _ 0 0 0 [some (.ref 0), some (.int (nI j)), some (.int (nI N)), none] [] n _
  refine wa_iconst (x := 0) dX6_tryTicks_0 (by decide) ?_
  refine wa_istore_n dX6_tryTicks_1 rfl ?_
  refine lp_try hn hg hj hN hT N 0 S (Nat.zero_add _) h FRc.rf (fun S' h' hf' => ?_)
  refine wa_aload_n dX6_tryTicks_21 rfl ?_
  refine g_VR (by assumption) 5 dX6_tryTicks_22 fl_X6_30 (by decide) rfl ?_
  refine g_HO h'.H hn 10 dX6_tryTicks_25 fl_X6_231 (by decide) rfl ?_
  refine wa_iload_n dX6_tryTicks_28 rfl ?_
  refine L_room h'.H hn (ix_nI (by have := hg.rn6; omega)) (by have := hg.rn6; omega) dX6_tryTicks_29 ?_
  exact wa_areturn dX6_tryTicks_30 ⟨Nat.le_refl _, Nat.le_refl _, ⟨_, rfl, Or.inl ⟨_, rfl⟩⟩, rfl, rfl, _, rfl, h', hf'⟩
theorem lp_tryLack {Q : ab_Q} {n j N : Nat} {S0 : SS} {g : Nat → Int32} {T : Int} (hn : 279 ≤ n) (hg : GG T g) (hj : j < rn g) (hN : N < 2147483647) (hT : T + N ≤ 200000) :
    ∀ (r k : Nat) (S1 : SS), k + r = N → HH S1 57 (ticksN g k) (fun i => i = j) → FRc 57 S0 S1 → (∀ S', HH S' 57 (ticksN g (N)) (fun i => i = j) → FRc 57 S0 S' → Q (.inl (some (.int (lackN g j N)))) 0 0 n (Hp S')) → WA RX6 cX6_tryLack 6 [] (ab_rm 7 0 0) Q 0 0 16 [some (.ref 0), some (.int (nI j)), some (.int (nI N)), some (.ref (57 + 5 + 3 * j)), some (.int (lackN g j k)), some (.int (nI (k)))] [] n (Hp S1) := by
  intro r
  induction r with
  | zero =>
    intro k S1 hk h hfr hQ
    have hk2 : k = N := by omega

    refine wa_iload dX6_tryLack_16 rfl ?_
    refine wa_iload_n dX6_tryLack_18 rfl ?_
    refine wa_icmp_ge 53 dX6_tryLack_19 rfl (fun c19 => ?_) (fun c19 => absurd (by rw [hk2]; exact Int32.le_refl _) c19)
    refine wa_iload dX6_tryLack_53 rfl ?_
    exact wa_ireturn dX6_tryLack_55 (by rw [hk2] at h ⊢; exact hQ S1 h hfr)
  | succ r ih =>
    intro k S1 hk h hfr hQ
    have hgk := GG_ticks hg k (by omega)
    have okk := (GG_tick hgk (by omega)).2
    have hj6 : j < 6 := by have := hg.rn6; omega
    refine wa_iload dX6_tryLack_16 rfl ?_
    refine wa_iload_n dX6_tryLack_18 rfl ?_
    refine wa_icmp_ge 53 dX6_tryLack_19 rfl (fun c19 => absurd c19 (nI_ge (by omega) (by omega))) (fun c19 => ?_)
    refine wa_aload_n dX6_tryLack_22 rfl ?_
    refine g_VR (by assumption) 5 dX6_tryLack_23 fl_X6_30 (by decide) rfl ?_
    refine wa_iload_n dX6_tryLack_26 rfl ?_
    refine c_VQV dX6_tryLack_27 (hh_passTickIn hn h (by rw [rn_ticks]; exact hj) hgk.e3 hgk.2.2.1 (okk j (by rw [rn_ticks]; exact hj))) lk_X6_235 rfl (isH.HO isH_trial _ _ _) rfl (lt_HO isH_trial hn) (fun S2 q2 => ?_)
    refine wa_iload dX6_tryLack_30 rfl ?_
    refine wa_iconst (x := 0) dX6_tryLack_32 (by decide) ?_
    refine wa_aload_n dX6_tryLack_33 rfl ?_
    refine g_VR (by assumption) 5 dX6_tryLack_34 fl_X6_30 (by decide) rfl ?_
    refine wa_aload_n dX6_tryLack_37 rfl ?_
    have hg2 := GG_ticks hg (k + 1) (by omega)
    have hl2 := (show HH S2 57 (ticksN g (k + 1)) (fun i => i = j) from q2.1).lvP (by rw [rn_ticks]; exact hj) rfl
    refine c_VI dX6_tryLack_38 (hh_missingTo hn hl2 hg2.t0 (hg2.pre (by rw [rn_ticks]; exact hj))) lk_X6_200 rfl (isH.HO isH_trial _ _ _) rfl (lt_HO isH_trial hn) ?_
    refine c_SI dX6_tryLack_41 (am_max _ _) lk_X6_251 rfl ?_
    refine wa_iadd dX6_tryLack_44 ?_
    rw [show lackN g j k + i_max 0 (mis (ticksN g (k + 1)) j) = lackN g j (k + 1) from rfl]
    refine wa_istore dX6_tryLack_45 rfl ?_
    refine wa_iinc (y := 1) dX6_tryLack_47 rfl (by decide) rfl ?_
    refine wa_goto 16 dX6_tryLack_50 rfl ?_
    rw [nI_1 k]
    exact ih (k + 1) S2 (by omega) q2.1 (hfr.tr q2.2.c) hQ
theorem vr_tryLack {n j N : Nat} {S : SS} {g : Nat → Int32} {T : Int} (hn : 279 ≤ n) (hg : GG T g) (hj : j < rn g) (hN : N < 2147483647) (hT : T + N ≤ 200000) (h : HH S 57 g (fun i => i = j)) : AM yX6_tryLack cX6_tryLack 6 (some .int) [] 7 0 0 [.ref 0, .int (nI j), .int (nI N)] n (Hp S) (PIe n (fun v S' => FRc 57 S S' ∧ v = lackN g j N)) := by
  intro has
  change WA RX6 cX6_tryLack 6 [] _ _ 0 0 0 [some (.ref 0), some (.int (nI j)), some (.int (nI N)), none, none, none] [] n _
  refine wa_aload_n dX6_tryLack_0 rfl ?_
  refine g_VR (by assumption) 5 dX6_tryLack_1 fl_X6_30 (by decide) rfl ?_
  refine g_HO h.H hn 10 dX6_tryLack_4 fl_X6_231 (by decide) rfl ?_
  refine wa_iload_n dX6_tryLack_7 rfl ?_
  refine L_room h.H hn (ix_nI (by have := hg.rn6; omega)) (by have := hg.rn6; omega) dX6_tryLack_8 ?_
  refine wa_astore_n dX6_tryLack_9 rfl ?_
  refine wa_iconst (x := 0) dX6_tryLack_10 (by decide) ?_
  refine wa_istore dX6_tryLack_11 rfl ?_
  refine wa_iconst (x := 0) dX6_tryLack_13 (by decide) ?_
  refine wa_istore dX6_tryLack_14 rfl ?_
  refine lp_tryLack hn hg hj hN hT N 0 S (Nat.zero_add _) h FRc.rf (fun S' h' hf' => ⟨Nat.le_refl _, Nat.le_refl _, ⟨_, rfl, rfl⟩, rfl, _, S', rfl, rfl, hf', rfl⟩)
theorem vr_tempIn_1 {n : Nat} {S : SS} {g : Nat → Int32} {T : Int} (hn : 279 ≤ n) (h : HH S 34 g (fun _ => True)) (hg : GG T g) (r t : Int32) (h1 : ¬ (0 ≤ r ∧ r < g 0)) : AM yX6_tempIn cX6_tempIn 3 (some .int) [] 8 1 6 [.ref 0, .int r, .int t] n (Hp S) (PX ab_xI n S) := by
  intro has
  change WA RX6 cX6_tempIn 3 [] _ _ 0 0 0 [some (.ref 0), some (.int r), some (.int t)] [] n _
  refine wa_aload_n dX6_tempIn_0 rfl ?_
  refine wa_iload_n dX6_tempIn_1 rfl ?_
  refine wa_iload_n dX6_tempIn_2 rfl ?_
  exact c_VX dX6_tempIn_3 (vr_requireLook_1 hn h r t h1) lk_X6_220 rfl (isO_VR _ _ _) rfl (ltS hn) (wt_out ⟨Nat.le_refl _, Nat.le_refl _, trivial, rfl, rfl, rfl⟩ (by decide))
theorem vr_tempIn_2 {n : Nat} {S : SS} {g : Nat → Int32} {T : Int} (hn : 279 ≤ n) (h : HH S 34 g (fun _ => True)) (hg : GG T g) (r t : Int32) (h1 : 0 ≤ r ∧ r < g 0) (h2 : ¬ inr t 0 500) : AM yX6_tempIn cX6_tempIn 3 (some .int) [] 8 1 6 [.ref 0, .int r, .int t] n (Hp S) (PX ab_xA n S) := by
  intro has
  change WA RX6 cX6_tempIn 3 [] _ _ 0 0 0 [some (.ref 0), some (.int r), some (.int t)] [] n _
  refine wa_aload_n dX6_tempIn_0 rfl ?_
  refine wa_iload_n dX6_tempIn_1 rfl ?_
  refine wa_iload_n dX6_tempIn_2 rfl ?_
  exact c_VX dX6_tempIn_3 (vr_requireLook_2 hn h r t h1 h2) lk_X6_220 rfl (isO_VR _ _ _) rfl (ltS hn) (wt_out ⟨Nat.le_refl _, Nat.le_refl _, trivial, rfl, rfl, rfl⟩ (by decide))
theorem vr_tempIn_0 {n i N : Nat} {S : SS} {g : Nat → Int32} {T : Int} (hn : 279 ≤ n) (h : HH S 34 g (fun _ => True)) (hg : GG T g) (hi : i < rn g) (hN : N ≤ 500) (hT : T ≤ 199000) : AM yX6_tempIn cX6_tempIn 3 (some .int) [] 8 0 0 [.ref 0, .int (nI i), .int (nI N)] n (Hp S) (PIe n (fun v S' => FRc 57 S S' ∧ v = of (ticksN g N) i 0)) := by
  intro has
  change WA RX6 cX6_tempIn 3 [] _ _ 0 0 0 [some (.ref 0), some (.int (nI i)), some (.int (nI N))] [] n _
  have hk := rk_l hg hi
  have hr : inr (nI N) 0 500 := ⟨nI_0le (by omega), nI_le hN (by decide)⟩
  refine wa_aload_n dX6_tempIn_0 rfl ?_
  refine wa_iload_n dX6_tempIn_1 rfl ?_
  refine wa_iload_n dX6_tempIn_2 rfl ?_
  refine c_VV dX6_tempIn_3 (vr_look hn h hk hr) lk_X6_220 rfl (isO_VR _ _ _) rfl (ltS hn) ?_
  refine wa_aload_n dX6_tempIn_6 rfl ?_
  refine c_VQV dX6_tempIn_7 (vr_startTrial hn h hg) lk_X6_224 rfl (isO_VR _ _ _) rfl (ltS hn) (fun S1 q1 => ?_)
  refine wa_aload_n dX6_tempIn_10 rfl ?_
  refine wa_iload_n dX6_tempIn_11 rfl ?_
  refine wa_iload_n dX6_tempIn_12 rfl ?_
  refine c_VQA dX6_tempIn_13 (vr_tryTicks (S := S1) hn hg hi (by omega) (by omega) (q1.1.wk (fun _ _ => trivial))) lk_X6_227 rfl (isO_VR _ _ _) rfl (ltS hn) (fun S2 q2 => ?_)
  have hl := q2.1.lvP (by rw [rn_ticks]; exact hi) rfl
  refine L_n hl hn 0 dX6_tempIn_16 fl_X6_138 (by decide) (fun _ _ _ => rfl) ?_
  exact wa_ireturn dX6_tempIn_19 ⟨Nat.le_refl _, Nat.le_refl _, ⟨_, rfl, rfl⟩, rfl, _, _, rfl, rfl, q1.2.tr q2.2, rfl⟩
theorem vr_valveIn_1 {n : Nat} {S : SS} {g : Nat → Int32} {T : Int} (hn : 279 ≤ n) (h : HH S 34 g (fun _ => True)) (hg : GG T g) (r t : Int32) (h1 : ¬ (0 ≤ r ∧ r < g 0)) : AM yX6_valveIn cX6_valveIn 3 (some .int) [] 8 1 6 [.ref 0, .int r, .int t] n (Hp S) (PX ab_xI n S) := by
  intro has
  change WA RX6 cX6_valveIn 3 [] _ _ 0 0 0 [some (.ref 0), some (.int r), some (.int t)] [] n _
  refine wa_aload_n dX6_valveIn_0 rfl ?_
  refine wa_iload_n dX6_valveIn_1 rfl ?_
  refine wa_iload_n dX6_valveIn_2 rfl ?_
  exact c_VX dX6_valveIn_3 (vr_requireLook_1 hn h r t h1) lk_X6_220 rfl (isO_VR _ _ _) rfl (ltS hn) (wt_out ⟨Nat.le_refl _, Nat.le_refl _, trivial, rfl, rfl, rfl⟩ (by decide))
theorem vr_valveIn_2 {n : Nat} {S : SS} {g : Nat → Int32} {T : Int} (hn : 279 ≤ n) (h : HH S 34 g (fun _ => True)) (hg : GG T g) (r t : Int32) (h1 : 0 ≤ r ∧ r < g 0) (h2 : ¬ inr t 0 500) : AM yX6_valveIn cX6_valveIn 3 (some .int) [] 8 1 6 [.ref 0, .int r, .int t] n (Hp S) (PX ab_xA n S) := by
  intro has
  change WA RX6 cX6_valveIn 3 [] _ _ 0 0 0 [some (.ref 0), some (.int r), some (.int t)] [] n _
  refine wa_aload_n dX6_valveIn_0 rfl ?_
  refine wa_iload_n dX6_valveIn_1 rfl ?_
  refine wa_iload_n dX6_valveIn_2 rfl ?_
  exact c_VX dX6_valveIn_3 (vr_requireLook_2 hn h r t h1 h2) lk_X6_220 rfl (isO_VR _ _ _) rfl (ltS hn) (wt_out ⟨Nat.le_refl _, Nat.le_refl _, trivial, rfl, rfl, rfl⟩ (by decide))
theorem vr_valveIn_0 {n i N : Nat} {S : SS} {g : Nat → Int32} {T : Int} (hn : 279 ≤ n) (h : HH S 34 g (fun _ => True)) (hg : GG T g) (hi : i < rn g) (hN : N ≤ 500) (hT : T ≤ 199000) : AM yX6_valveIn cX6_valveIn 3 (some .int) [] 8 0 0 [.ref 0, .int (nI i), .int (nI N)] n (Hp S) (PIe n (fun v S' => FRc 57 S S' ∧ v = of (ticksN g N) i 1)) := by
  intro has
  change WA RX6 cX6_valveIn 3 [] _ _ 0 0 0 [some (.ref 0), some (.int (nI i)), some (.int (nI N))] [] n _
  have hk := rk_l hg hi
  have hr : inr (nI N) 0 500 := ⟨nI_0le (by omega), nI_le hN (by decide)⟩
  refine wa_aload_n dX6_valveIn_0 rfl ?_
  refine wa_iload_n dX6_valveIn_1 rfl ?_
  refine wa_iload_n dX6_valveIn_2 rfl ?_
  refine c_VV dX6_valveIn_3 (vr_look hn h hk hr) lk_X6_220 rfl (isO_VR _ _ _) rfl (ltS hn) ?_
  refine wa_aload_n dX6_valveIn_6 rfl ?_
  refine c_VQV dX6_valveIn_7 (vr_startTrial hn h hg) lk_X6_224 rfl (isO_VR _ _ _) rfl (ltS hn) (fun S1 q1 => ?_)
  refine wa_aload_n dX6_valveIn_10 rfl ?_
  refine wa_iload_n dX6_valveIn_11 rfl ?_
  refine wa_iload_n dX6_valveIn_12 rfl ?_
  refine c_VQA dX6_valveIn_13 (vr_tryTicks (S := S1) hn hg hi (by omega) (by omega) (q1.1.wk (fun _ _ => trivial))) lk_X6_227 rfl (isO_VR _ _ _) rfl (ltS hn) (fun S2 q2 => ?_)
  have hl := q2.1.lvP (by rw [rn_ticks]; exact hi) rfl
  refine L_n hl hn 1 dX6_valveIn_16 fl_X6_143 (by decide) (fun _ _ _ => rfl) ?_
  exact wa_ireturn dX6_valveIn_19 ⟨Nat.le_refl _, Nat.le_refl _, ⟨_, rfl, rfl⟩, rfl, _, _, rfl, rfl, q1.2.tr q2.2, rfl⟩
theorem vr_lack_1 {n : Nat} {S : SS} {g : Nat → Int32} {T : Int} (hn : 279 ≤ n) (h : HH S 34 g (fun _ => True)) (hg : GG T g) (r t : Int32) (h1 : ¬ (0 ≤ r ∧ r < g 0)) : AM yX6_lack cX6_lack 3 (some .int) [] 8 1 6 [.ref 0, .int r, .int t] n (Hp S) (PX ab_xI n S) := by
  intro has
  change WA RX6 cX6_lack 3 [] _ _ 0 0 0 [some (.ref 0), some (.int r), some (.int t)] [] n _
  refine wa_aload_n dX6_lack_0 rfl ?_
  refine wa_iload_n dX6_lack_1 rfl ?_
  refine wa_iload_n dX6_lack_2 rfl ?_
  exact c_VX dX6_lack_3 (vr_requireLook_1 hn h r t h1) lk_X6_220 rfl (isO_VR _ _ _) rfl (ltS hn) (wt_out ⟨Nat.le_refl _, Nat.le_refl _, trivial, rfl, rfl, rfl⟩ (by decide))
theorem vr_lack_2 {n : Nat} {S : SS} {g : Nat → Int32} {T : Int} (hn : 279 ≤ n) (h : HH S 34 g (fun _ => True)) (hg : GG T g) (r t : Int32) (h1 : 0 ≤ r ∧ r < g 0) (h2 : ¬ inr t 0 500) : AM yX6_lack cX6_lack 3 (some .int) [] 8 1 6 [.ref 0, .int r, .int t] n (Hp S) (PX ab_xA n S) := by
  intro has
  change WA RX6 cX6_lack 3 [] _ _ 0 0 0 [some (.ref 0), some (.int r), some (.int t)] [] n _
  refine wa_aload_n dX6_lack_0 rfl ?_
  refine wa_iload_n dX6_lack_1 rfl ?_
  refine wa_iload_n dX6_lack_2 rfl ?_
  exact c_VX dX6_lack_3 (vr_requireLook_2 hn h r t h1 h2) lk_X6_220 rfl (isO_VR _ _ _) rfl (ltS hn) (wt_out ⟨Nat.le_refl _, Nat.le_refl _, trivial, rfl, rfl, rfl⟩ (by decide))
theorem vr_lack_0 {n i N : Nat} {S : SS} {g : Nat → Int32} {T : Int} (hn : 279 ≤ n) (h : HH S 34 g (fun _ => True)) (hg : GG T g) (hi : i < rn g) (hN : N ≤ 500) (hT : T ≤ 199000) : AM yX6_lack cX6_lack 3 (some .int) [] 8 0 0 [.ref 0, .int (nI i), .int (nI N)] n (Hp S) (PIe n (fun v S' => FRc 57 S S' ∧ v = lackN g i N)) := by
  intro has
  change WA RX6 cX6_lack 3 [] _ _ 0 0 0 [some (.ref 0), some (.int (nI i)), some (.int (nI N))] [] n _
  have hk := rk_l hg hi
  have hr : inr (nI N) 0 500 := ⟨nI_0le (by omega), nI_le hN (by decide)⟩
  refine wa_aload_n dX6_lack_0 rfl ?_
  refine wa_iload_n dX6_lack_1 rfl ?_
  refine wa_iload_n dX6_lack_2 rfl ?_
  refine c_VV dX6_lack_3 (vr_look hn h hk hr) lk_X6_220 rfl (isO_VR _ _ _) rfl (ltS hn) ?_
  refine wa_aload_n dX6_lack_6 rfl ?_
  refine c_VQV dX6_lack_7 (vr_startTrial hn h hg) lk_X6_224 rfl (isO_VR _ _ _) rfl (ltS hn) (fun S1 q1 => ?_)
  refine wa_aload_n dX6_lack_10 rfl ?_
  refine wa_iload_n dX6_lack_11 rfl ?_
  refine wa_iload_n dX6_lack_12 rfl ?_
  refine c_VQI dX6_lack_13 (vr_tryLack (S := S1) (N := N) hn hg hi (by omega) (by omega) (q1.1.wk (fun _ _ => trivial))) lk_X6_242 rfl (isO_VR _ _ _) rfl (ltS hn) (fun v2 S2 q2 => ?_)
  exact wa_ireturn dX6_lack_16 ⟨Nat.le_refl _, Nat.le_refl _, ⟨_, rfl, rfl⟩, rfl, _, _, rfl, rfl, q1.2.tr q2.1, q2.2⟩
theorem vr_tempIf_1 {n : Nat} {S : SS} {g : Nat → Int32} {T : Int} (hn : 279 ≤ n) (h : HH S 34 g (fun _ => True)) (hg : GG T g) (r o t : Int32) (h1 : ¬ (0 ≤ r ∧ r < g 0)) : AM yX6_tempIf cX6_tempIf 4 (some .int) [] 8 1 6 [.ref 0, .int r, .int o, .int t] n (Hp S) (PX ab_xI n S) := by
  intro has
  change WA RX6 cX6_tempIf 4 [] _ _ 0 0 0 [some (.ref 0), some (.int r), some (.int o), some (.int t)] [] n _
  refine wa_aload_n dX6_tempIf_0 rfl ?_
  refine wa_iload_n dX6_tempIf_1 rfl ?_
  refine wa_iload_n dX6_tempIf_2 rfl ?_
  exact c_VX dX6_tempIf_3 (vr_requireLook_1 hn h r t h1) lk_X6_220 rfl (isO_VR _ _ _) rfl (ltS hn) (wt_out ⟨Nat.le_refl _, Nat.le_refl _, trivial, rfl, rfl, rfl⟩ (by decide))
theorem vr_tempIf_2 {n : Nat} {S : SS} {g : Nat → Int32} {T : Int} (hn : 279 ≤ n) (h : HH S 34 g (fun _ => True)) (hg : GG T g) (r o t : Int32) (h1 : 0 ≤ r ∧ r < g 0) (h2 : ¬ inr t 0 500) : AM yX6_tempIf cX6_tempIf 4 (some .int) [] 8 1 6 [.ref 0, .int r, .int o, .int t] n (Hp S) (PX ab_xA n S) := by
  intro has
  change WA RX6 cX6_tempIf 4 [] _ _ 0 0 0 [some (.ref 0), some (.int r), some (.int o), some (.int t)] [] n _
  refine wa_aload_n dX6_tempIf_0 rfl ?_
  refine wa_iload_n dX6_tempIf_1 rfl ?_
  refine wa_iload_n dX6_tempIf_2 rfl ?_
  exact c_VX dX6_tempIf_3 (vr_requireLook_2 hn h r t h1 h2) lk_X6_220 rfl (isO_VR _ _ _) rfl (ltS hn) (wt_out ⟨Nat.le_refl _, Nat.le_refl _, trivial, rfl, rfl, rfl⟩ (by decide))
theorem vr_tempIf_3 {n : Nat} {S : SS} {g : Nat → Int32} {T : Int} (hn : 279 ≤ n) (h : HH S 34 g (fun _ => True)) (hg : GG T g) (r o t : Int32) (h1 : 0 ≤ r ∧ r < g 0) (h2 : inr t 0 500) (h3 : ¬ inr o (-300) 400) : AM yX6_tempIf cX6_tempIf 4 (some .int) [] 8 1 6 [.ref 0, .int r, .int o, .int t] n (Hp S) (PX ab_xA n S) := by
  intro has
  change WA RX6 cX6_tempIf 4 [] _ _ 0 0 0 [some (.ref 0), some (.int r), some (.int o), some (.int t)] [] n _
  refine wa_aload_n dX6_tempIf_0 rfl ?_
  refine wa_iload_n dX6_tempIf_1 rfl ?_
  refine wa_iload_n dX6_tempIf_2 rfl ?_
  refine c_VV dX6_tempIf_3 (vr_look hn h h1 h2) lk_X6_220 rfl (isO_VR _ _ _) rfl (ltS hn) ?_
  refine wa_iload_n dX6_tempIf_6 rfl ?_
  refine wa_sipush (x := (-300)) dX6_tempIf_7 (by decide) ?_
  refine wa_sipush (x := 400) dX6_tempIf_10 (by decide) ?_
  exact c_SX dX6_tempIf_13 (vr_rangeX h3) lk_X6_62 rfl (wt_out ⟨Nat.le_refl _, Nat.le_refl _, trivial, rfl, rfl, rfl⟩ (by decide))
theorem vr_tempIf_0 {n i N : Nat} {S : SS} {g : Nat → Int32} {T : Int} (hn : 279 ≤ n) (h : HH S 34 g (fun _ => True)) (hg : GG T g) (hi : i < rn g) (hN : N ≤ 500) (hT : T ≤ 199000) (o : Int32) (ho : inr o (-300) 400) : AM yX6_tempIf cX6_tempIf 4 (some .int) [] 8 0 0 [.ref 0, .int (nI i), .int o, .int (nI N)] n (Hp S) (PIe n (fun v S' => FRc 57 S S' ∧ v = of (ticksN (upd g 2 o) N) i 0)) := by
  intro has
  change WA RX6 cX6_tempIf 4 [] _ _ 0 0 0 [some (.ref 0), some (.int (nI i)), some (.int o), some (.int (nI N))] [] n _
  have hk := rk_l hg hi
  have hr : inr (nI N) 0 500 := ⟨nI_0le (by omega), nI_le hN (by decide)⟩
  have ko1 : (-300 : Int32).toInt = -300 := by decide
  have ko2 : (400 : Int32).toInt = 400 := by decide
  have ho2 : -300 ≤ o.toInt ∧ o.toInt ≤ 400 := by
    have a1 := Int32.le_iff_toInt_le.mp ho.1
    have a2 := Int32.le_iff_toInt_le.mp ho.2
    rw [ko1] at a1
    rw [ko2] at a2
    exact ⟨a1, a2⟩
  have hg2 : GG T (upd g 2 o) := GG_upd o hg (by decide) (by decide) (by decide) (by decide) (GH_2 hg.2.1 ho2)
  refine wa_aload_n dX6_tempIf_0 rfl ?_
  refine wa_iload_n dX6_tempIf_1 rfl ?_
  refine wa_iload_n dX6_tempIf_2 rfl ?_
  refine c_VV dX6_tempIf_3 (vr_look hn h hk hr) lk_X6_220 rfl (isO_VR _ _ _) rfl (ltS hn) ?_
  refine wa_iload_n dX6_tempIf_6 rfl ?_
  refine wa_sipush (x := (-300)) dX6_tempIf_7 (by decide) ?_
  refine wa_sipush (x := 400) dX6_tempIf_10 (by decide) ?_
  refine c_SV dX6_tempIf_13 (vr_range ho.1 ho.2) lk_X6_62 rfl ?_
  refine wa_aload_n dX6_tempIf_16 rfl ?_
  refine c_VQV dX6_tempIf_17 (vr_startTrial hn h hg) lk_X6_224 rfl (isO_VR _ _ _) rfl (ltS hn) (fun S1 q1 => ?_)
  refine wa_aload_n dX6_tempIf_20 rfl ?_
  refine g_VR (by assumption) 5 dX6_tempIf_21 fl_X6_30 (by decide) rfl ?_
  refine wa_iload_n dX6_tempIf_24 rfl ?_
  refine p_HO isH_trial hn 1 dX6_tempIf_25 fl_X6_107 (by decide) rfl rfl rfl rfl (fun _ _ _ => rfl) (Nat.le_of_ble_eq_true rfl) ?_
  have u1 : HH (ss S1 57 1 o) 57 (upd g 2 o) (fun _ => True) := q1.1.h1 (j := 1) (by decide) o
  have f1 : FRc 57 S (ss S1 57 1 o) := q1.2.tr (FRh.rf.ss ⟨Nat.le_refl _, by omega⟩ 1 o).c
  refine wa_aload_n dX6_tempIf_28 rfl ?_
  refine wa_iload_n dX6_tempIf_29 rfl ?_
  refine wa_iload_n dX6_tempIf_30 rfl ?_
  refine c_VQA dX6_tempIf_31 (vr_tryTicks (S := ss S1 57 1 o) hn hg2 hi (by omega) (by omega) (u1.wk (fun _ _ => trivial))) lk_X6_227 rfl (isO_VR _ _ _) rfl (ltS hn) (fun S2 q2 => ?_)
  have hl := q2.1.lvP (by rw [rn_ticks]; exact hi) rfl
  refine L_n hl hn 0 dX6_tempIf_34 fl_X6_138 (by decide) (fun _ _ _ => rfl) ?_
  exact wa_ireturn dX6_tempIf_37 ⟨Nat.le_refl _, Nat.le_refl _, ⟨_, rfl, rfl⟩, rfl, _, _, rfl, rfl, f1.tr q2.2, rfl⟩
theorem vr_coldBy_1 {n : Nat} {S : SS} {g : Nat → Int32} {T : Int} (hn : 279 ≤ n) (h : HH S 34 g (fun _ => True)) (hg : GG T g) (r t : Int32) (h1 : ¬ (0 ≤ r ∧ r < g 0)) : AM yX6_coldBy cX6_coldBy 5 (some .int) [] 8 1 6 [.ref 0, .int r, .int t] n (Hp S) (PX ab_xI n S) := by
  intro has
  change WA RX6 cX6_coldBy 5 [] _ _ 0 0 0 [some (.ref 0), some (.int r), some (.int t), none, none] [] n _
  refine wa_aload_n dX6_coldBy_0 rfl ?_
  refine wa_iload_n dX6_coldBy_1 rfl ?_
  refine wa_iload_n dX6_coldBy_2 rfl ?_
  exact c_VX dX6_coldBy_3 (vr_requireLook_1 hn h r t h1) lk_X6_220 rfl (isO_VR _ _ _) rfl (ltS hn) (wt_out ⟨Nat.le_refl _, Nat.le_refl _, trivial, rfl, rfl, rfl⟩ (by decide))
theorem vr_coldBy_2 {n : Nat} {S : SS} {g : Nat → Int32} {T : Int} (hn : 279 ≤ n) (h : HH S 34 g (fun _ => True)) (hg : GG T g) (r t : Int32) (h1 : 0 ≤ r ∧ r < g 0) (h2 : ¬ inr t 0 500) : AM yX6_coldBy cX6_coldBy 5 (some .int) [] 8 1 6 [.ref 0, .int r, .int t] n (Hp S) (PX ab_xA n S) := by
  intro has
  change WA RX6 cX6_coldBy 5 [] _ _ 0 0 0 [some (.ref 0), some (.int r), some (.int t), none, none] [] n _
  refine wa_aload_n dX6_coldBy_0 rfl ?_
  refine wa_iload_n dX6_coldBy_1 rfl ?_
  refine wa_iload_n dX6_coldBy_2 rfl ?_
  exact c_VX dX6_coldBy_3 (vr_requireLook_2 hn h r t h1 h2) lk_X6_220 rfl (isO_VR _ _ _) rfl (ltS hn) (wt_out ⟨Nat.le_refl _, Nat.le_refl _, trivial, rfl, rfl, rfl⟩ (by decide))
theorem vr_coldBy_0 {n i N : Nat} {S : SS} {g : Nat → Int32} {T : Int} (hn : 279 ≤ n) (h : HH S 34 g (fun _ => True)) (hg : GG T g) (hi : i < rn g) (hN : N ≤ 500) (hT : T ≤ 199000) : AM yX6_coldBy cX6_coldBy 5 (some .int) [] 8 0 0 [.ref 0, .int (nI i), .int (nI N)] n (Hp S) (PIe n (fun v S' => FRc 57 S S' ∧ v = i_max 0 (of (ticksN g N) i 0 - of (ticksN (pt g i 5 1) N) i 0))) := by
  intro has
  change WA RX6 cX6_coldBy 5 [] _ _ 0 0 0 [some (.ref 0), some (.int (nI i)), some (.int (nI N)), none, none] [] n _
  have hk := rk_l hg hi
  have hr : inr (nI N) 0 500 := ⟨nI_0le (by omega), nI_le hN (by decide)⟩
  have hi6 : i < 6 := by have := hg.rn6; omega
  have hg2 : GG T (pt g i 5 1) := GG_pt 1 hg (by decide) (fun q => GR_pt5 1 (hg.2.2.2.2 i q) (Or.inr rfl))
  refine wa_aload_n dX6_coldBy_0 rfl ?_
  refine wa_iload_n dX6_coldBy_1 rfl ?_
  refine wa_iload_n dX6_coldBy_2 rfl ?_
  refine c_VV dX6_coldBy_3 (vr_look hn h hk hr) lk_X6_220 rfl (isO_VR _ _ _) rfl (ltS hn) ?_
  refine wa_aload_n dX6_coldBy_6 rfl ?_
  refine c_VQV dX6_coldBy_7 (vr_startTrial hn h hg) lk_X6_224 rfl (isO_VR _ _ _) rfl (ltS hn) (fun S1 q1 => ?_)
  refine wa_aload_n dX6_coldBy_10 rfl ?_
  refine wa_iload_n dX6_coldBy_11 rfl ?_
  refine wa_iload_n dX6_coldBy_12 rfl ?_
  refine c_VQA dX6_coldBy_13 (vr_tryTicks (S := S1) hn hg hi (by omega) (by omega) (q1.1.wk (fun _ _ => trivial))) lk_X6_227 rfl (isO_VR _ _ _) rfl (ltS hn) (fun S2 q2 => ?_)
  have hl := q2.1.lvP (by rw [rn_ticks]; exact hi) rfl
  refine L_n hl hn 0 dX6_coldBy_16 fl_X6_138 (by decide) (fun _ _ _ => rfl) ?_
  refine wa_istore_n dX6_coldBy_19 rfl ?_
  refine wa_aload_n dX6_coldBy_20 rfl ?_
  have f2 := q1.2.tr q2.2
  have h3 := h.frc f2 (by decide)
  refine c_VQV dX6_coldBy_21 (vr_startTrial hn h3 hg) lk_X6_224 rfl (isO_VR _ _ _) rfl (ltS hn) (fun S3 q3 => ?_)
  refine wa_aload_n dX6_coldBy_24 rfl ?_
  refine g_VR (by assumption) 5 dX6_coldBy_25 fl_X6_30 (by decide) rfl ?_
  refine g_HO q3.1.H hn 10 dX6_coldBy_28 fl_X6_231 (by decide) rfl ?_
  refine wa_iload_n dX6_coldBy_31 rfl ?_
  refine L_room q3.1.H hn (ix_nI (by omega)) hi6 dX6_coldBy_32 ?_
  have hl3 := q3.1.lvP hi trivial
  refine wa_iconst (x := 1) dX6_coldBy_33 (by decide) ?_
  refine L_put hl3 hn 5 dX6_coldBy_34 fl_X6_155 (by decide) rfl rfl rfl rfl (fun _ _ _ => rfl) (fun S4 h4 => ?_)
  refine wa_aload_n dX6_coldBy_37 rfl ?_
  refine wa_iload_n dX6_coldBy_38 rfl ?_
  refine wa_iload_n dX6_coldBy_39 rfl ?_
  have u4 : HH S4 57 (pt g i 5 1) (fun j => j = i) := q3.1.step (fun k hk => pt_lo g 1 hk) (fun k hk => rfl) (fun _ => rfl) (fun j hj q => absurd q hj) h4
  have f4 : FRc 57 S S4 := f2.tr (q3.2.tr (h4.2.2.2.1.h ⟨by omega, by omega⟩).c)
  refine c_VQA dX6_coldBy_40 (vr_tryTicks (S := S4) hn hg2 (by rw [show rn (pt g i 5 1) = rn g from rn_cg (pt_lo g 1 (by decide))]; exact hi) (by omega) (by omega) u4) lk_X6_227 rfl (isO_VR _ _ _) rfl (ltS hn) (fun S5 q5 => ?_)
  have hl5 := q5.1.lvP (by rw [rn_ticks, show rn (pt g i 5 1) = rn g from rn_cg (pt_lo g 1 (by decide))]; exact hi) rfl
  refine L_n hl5 hn 0 dX6_coldBy_43 fl_X6_138 (by decide) (fun _ _ _ => rfl) ?_
  refine wa_istore dX6_coldBy_46 rfl ?_
  refine wa_iconst (x := 0) dX6_coldBy_48 (by decide) ?_
  refine wa_iload_n dX6_coldBy_49 rfl ?_
  refine wa_iload dX6_coldBy_50 rfl ?_
  refine wa_isub dX6_coldBy_52 ?_
  refine c_SI dX6_coldBy_53 (am_max _ _) lk_X6_251 rfl ?_
  exact wa_ireturn dX6_coldBy_56 ⟨Nat.le_refl _, Nat.le_refl _, ⟨_, rfl, rfl⟩, rfl, _, _, rfl, rfl, f4.tr q5.2, rfl⟩
theorem vr_heatIn_1 {n : Nat} {S : SS} {g : Nat → Int32} {T : Int} (hn : 279 ≤ n) (h : HH S 34 g (fun _ => True)) (hg : GG T g) (t : Int32) (h1 : ¬ inr t 0 500) : AM yX6_heatIn cX6_heatIn 4 (some .int) [] 8 1 6 [.ref 0, .int t] n (Hp S) (PX ab_xA n S) := by
  intro has
  change WA RX6 cX6_heatIn 4 [] _ _ 0 0 0 [some (.ref 0), some (.int t), none, none] [] n _
  refine wa_iload_n dX6_heatIn_0 rfl ?_
  refine wa_iconst (x := 0) dX6_heatIn_1 (by decide) ?_
  refine wa_sipush (x := 500) dX6_heatIn_2 (by decide) ?_
  exact c_SX dX6_heatIn_5 (vr_rangeX h1) lk_X6_62 rfl (wt_out ⟨Nat.le_refl _, Nat.le_refl _, trivial, rfl, rfl, rfl⟩ (by decide))
theorem lp_heatIn {Q : ab_Q} {n N : Nat} {S0 : SS} {g : Nat → Int32} {T : Int} (hn : 279 ≤ n) (hg : GG T g) (hN : N < 2147483647) (hT : T + N ≤ 200000) :
    ∀ (r k : Nat) (S1 : SS), k + r = N → HH S1 57 (ticksN g k) (fun _ => True) → FRc 57 S0 S1 → (∀ S', HH S' 57 (ticksN g (N)) (fun _ => True) → FRc 57 S0 S' → WA RX6 cX6_heatIn 4 [] (ab_rm 8 0 0) Q 0 0 41 [some (.ref 0), some (.int (nI N)), some (.int (sumN g 10 (rn g))), some (.int (nI (N)))] [] n (Hp S')) → WA RX6 cX6_heatIn 4 [] (ab_rm 8 0 0) Q 0 0 22 [some (.ref 0), some (.int (nI N)), some (.int (sumN g 10 (rn g))), some (.int (nI (k)))] [] n (Hp S1) := by
  intro r
  induction r with
  | zero =>
    intro k S1 hk h hfr hQ
    have hk2 : k = N := by omega

    refine wa_iload_n dX6_heatIn_22 rfl ?_
    refine wa_iload_n dX6_heatIn_23 rfl ?_
    refine wa_icmp_ge 41 dX6_heatIn_24 rfl (fun c24 => ?_) (fun c24 => absurd (by rw [hk2]; exact Int32.le_refl _) c24)
    rw [hk2] at h ⊢
    exact hQ S1 h hfr
  | succ r ih =>
    intro k S1 hk h hfr hQ
    have hgk := GG_ticks hg k (by omega)
    have okk := (GG_tick hgk (by omega)).2
    refine wa_iload_n dX6_heatIn_22 rfl ?_
    refine wa_iload_n dX6_heatIn_23 rfl ?_
    refine wa_icmp_ge 41 dX6_heatIn_24 rfl (fun c24 => absurd c24 (nI_ge (by omega) (by omega))) (fun c24 => ?_)
    refine wa_aload_n dX6_heatIn_27 rfl ?_
    refine g_VR (by assumption) 5 dX6_heatIn_28 fl_X6_30 (by decide) rfl ?_
    refine c_VQI dX6_heatIn_31 (hh_passTick hn h hgk.e0 hgk.e3 hgk.2.2.1 okk) lk_X6_248 rfl (isH.HO isH_trial _ _ _) rfl (lt_HO isH_trial hn) (fun v2 S2 q2 => ?_)
    refine wa_pop dX6_heatIn_34 rfl ?_
    refine wa_iinc (y := 1) dX6_heatIn_35 rfl (by decide) rfl ?_
    refine wa_goto 22 dX6_heatIn_38 rfl ?_
    rw [nI_1 k]
    exact ih (k + 1) S2 (by omega) q2.1.1 (hfr.tr q2.1.2.c) hQ
theorem vr_heatIn_0 {n N : Nat} {S : SS} {g : Nat → Int32} {T : Int} (hn : 279 ≤ n) (h : HH S 34 g (fun _ => True)) (hg : GG T g) (hN : N ≤ 500) (hT : T ≤ 199000) : AM yX6_heatIn cX6_heatIn 4 (some .int) [] 8 0 0 [.ref 0, .int (nI N)] n (Hp S) (PIe n (fun v S' => FRc 57 S S' ∧ v = sumN (ticksN g N) 10 (rn g) - sumN g 10 (rn g))) := by
  intro has
  change WA RX6 cX6_heatIn 4 [] _ _ 0 0 0 [some (.ref 0), some (.int (nI N)), none, none] [] n _
  have hr : inr (nI N) 0 500 := ⟨nI_0le (by omega), nI_le hN (by decide)⟩
  refine wa_iload_n dX6_heatIn_0 rfl ?_
  refine wa_iconst (x := 0) dX6_heatIn_1 (by decide) ?_
  refine wa_sipush (x := 500) dX6_heatIn_2 (by decide) ?_
  refine c_SV dX6_heatIn_5 (vr_range hr.1 hr.2) lk_X6_62 rfl ?_
  refine wa_aload_n dX6_heatIn_8 rfl ?_
  refine c_VQV dX6_heatIn_9 (vr_startTrial hn h hg) lk_X6_224 rfl (isO_VR _ _ _) rfl (ltS hn) (fun S1 q1 => ?_)
  refine wa_aload_n dX6_heatIn_12 rfl ?_
  refine g_VR (by assumption) 5 dX6_heatIn_13 fl_X6_30 (by decide) rfl ?_
  refine c_VI dX6_heatIn_16 (hh_heatOfAll hn q1.1 hg.e0) lk_X6_245 rfl (isH.HO isH_trial _ _ _) rfl (lt_HO isH_trial hn) ?_
  refine wa_istore_n dX6_heatIn_19 rfl ?_
  refine wa_iconst (x := 0) dX6_heatIn_20 (by decide) ?_
  refine wa_istore_n dX6_heatIn_21 rfl ?_
  refine lp_heatIn hn hg (by omega) (by omega) N 0 S1 (Nat.zero_add _) q1.1 q1.2 (fun S' h' hf' => ?_)
  have hgN := GG_ticks hg N (by omega)
  refine wa_aload_n dX6_heatIn_41 rfl ?_
  refine g_VR (by assumption) 5 dX6_heatIn_42 fl_X6_30 (by decide) rfl ?_
  refine c_VI dX6_heatIn_45 (hh_heatOfAll hn h' hgN.e0) lk_X6_245 rfl (isH.HO isH_trial _ _ _) rfl (lt_HO isH_trial hn) ?_
  refine wa_iload_n dX6_heatIn_48 rfl ?_
  refine wa_isub dX6_heatIn_49 ?_
  exact wa_ireturn dX6_heatIn_50 ⟨Nat.le_refl _, Nat.le_refl _, ⟨_, rfl, rfl⟩, rfl, _, _, rfl, rfl, hf', by rw [rn_ticks]⟩
theorem vr_warmIn_1 {n : Nat} {S : SS} {g : Nat → Int32} {T : Int} (hn : 279 ≤ n) (h : HH S 34 g (fun _ => True)) (hg : GG T g) (r : Int32) (h1 : ¬ ((0 ≤ r ∧ r < g 0))) : AM yX6_warmIn cX6_warmIn 4 (some .int) [] 8 1 6 [.ref 0, .int r] n (Hp S) (PX ab_xI n S) := by
  intro has
  change WA RX6 cX6_warmIn 4 [] _ _ 0 0 0 [some (.ref 0), some (.int r), none, none] [] n _
  refine wa_aload_n dX6_warmIn_0 rfl ?_
  refine wa_iload_n dX6_warmIn_1 rfl ?_
  exact c_VX dX6_warmIn_2 (vr_roomAtX hn h h1) lk_X6_134 rfl (isO_VR _ _ _) rfl (ltS hn) (wt_out ⟨Nat.le_refl _, Nat.le_refl _, trivial, rfl, rfl, rfl⟩ (by decide))
theorem lpv_warmIn {Q : ab_Q} {v : Int32} {n j : Nat} {S0 : SS} {g : Nat → Int32} {T : Int} (hn : 279 ≤ n) (hg : GG T g) (hj : j < rn g) (hT : T ≤ 199000) :
    ∀ (r k : Nat) (S1 : SS), k + r = 501 → HH S1 57 (ticksN g k) (fun i => i = j) → FRc 57 S0 S1 → fst (fun k => tgt (ticksN g k) j ≤ of (ticksN g k) j 0) r k = v → (∀ S', FRc 57 S0 S' → Q (.inl (some (.int v))) 0 0 n (Hp S')) → WA RX6 cX6_warmIn 4 [] (ab_rm 8 0 0) Q 0 0 22 [some (.ref 0), some (.int (nI j)), some (.ref (57 + 5 + 3 * j)), some (.int (nI (k)))] [] n (Hp S1) := by
  intro r
  induction r with
  | zero =>
    intro k S1 hk h hfr hv hQ
    have hk2 : k = 501 := by omega
    refine wa_iload_n dX6_warmIn_22 rfl ?_
    refine wa_sipush (x := 500) dX6_warmIn_23 (by decide) ?_
    refine wa_icmp_gt 56 dX6_warmIn_26 rfl (fun c26 => ?_) (fun c26 => absurd (by rw [hk2]; decide) c26)
    refine wa_iconst (x := (-1)) dX6_warmIn_56 (by decide) ?_
    exact wa_ireturn dX6_warmIn_57 (by
      rw [show (-1 : Int32) = v from hv]
      exact hQ S1 hfr)
  | succ r ih =>
    intro k S1 hk h hfr hv hQ
    have hgk := GG_ticks hg k (by omega)
    have okk := (GG_tick hgk (by omega)).2
    have hj6 : j < 6 := by have := hg.rn6; omega
    have hjk : j < rn (ticksN g k) := by rw [rn_ticks]; exact hj
    have hl := h.lvP hjk rfl
    refine wa_iload_n dX6_warmIn_22 rfl ?_
    refine wa_sipush (x := 500) dX6_warmIn_23 (by decide) ?_
    refine wa_icmp_gt 56 dX6_warmIn_26 rfl (fun c26 => absurd c26 (Int32.not_lt.mpr (show nI k ≤ 500 from nI_le (b := 500) (by omega) (by decide)))) (fun c26 => ?_)
    refine wa_aload_n dX6_warmIn_29 rfl ?_
    refine g_VR (by assumption) 5 dX6_warmIn_30 fl_X6_30 (by decide) rfl ?_
    refine wa_aload_n dX6_warmIn_33 rfl ?_
    refine c_VI dX6_warmIn_34 (hh_missingTo hn hl hgk.t0 (hgk.pre hjk)) lk_X6_200 rfl (isH.HO isH_trial _ _ _) rfl (lt_HO isH_trial hn) ?_
    refine wa_if_gt 42 dX6_warmIn_37 rfl (fun c37 => ?_) (fun c37 => ?_)
    · refine wa_aload_n dX6_warmIn_42 rfl ?_
      refine g_VR (by assumption) 5 dX6_warmIn_43 fl_X6_30 (by decide) rfl ?_
      refine wa_iload_n dX6_warmIn_46 rfl ?_
      refine c_VQV dX6_warmIn_47 (hh_passTickIn hn h hjk hgk.e3 hgk.2.2.1 (okk j hjk)) lk_X6_235 rfl (isH.HO isH_trial _ _ _) rfl (lt_HO isH_trial hn) (fun S2 q2 => ?_)
      refine wa_iinc (y := 1) dX6_warmIn_50 rfl (by decide) rfl ?_
      refine wa_goto 22 dX6_warmIn_53 rfl ?_
      have e9 : fst (fun k => tgt (ticksN g k) j ≤ of (ticksN g k) j 0) (r + 1) k = fst (fun k => tgt (ticksN g k) j ≤ of (ticksN g k) j 0) r (k + 1) := if_neg (fun z => Int32.not_lt.mpr ((mis_pos hgk (by omega) hjk).mpr z) c37)
      rw [nI_1 k]
      exact ih (k + 1) S2 (by omega) q2.1 (hfr.tr q2.2.c) (e9.symm.trans hv) hQ
    · refine wa_iload_n dX6_warmIn_40 rfl ?_
      exact wa_ireturn dX6_warmIn_41 (by
        have e9 : fst (fun k => tgt (ticksN g k) j ≤ of (ticksN g k) j 0) (r + 1) k = nI k := if_pos ((mis_pos hgk (by omega) hjk).mp (Int32.not_lt.mp c37))
        rw [← e9, hv]
        exact hQ S1 hfr)
theorem vr_warmIn_0 {n i : Nat} {S : SS} {g : Nat → Int32} {T : Int} (hn : 279 ≤ n) (h : HH S 34 g (fun _ => True)) (hg : GG T g) (hi : i < rn g) (hT : T ≤ 199000) : AM yX6_warmIn cX6_warmIn 4 (some .int) [] 8 0 0 [.ref 0, .int (nI i)] n (Hp S) (PIe n (fun v S' => FRc 57 S S' ∧ v = fst (fun k => tgt (ticksN g k) i ≤ of (ticksN g k) i 0) 501 0)) := by
  intro has
  change WA RX6 cX6_warmIn 4 [] _ _ 0 0 0 [some (.ref 0), some (.int (nI i)), none, none] [] n _
  have hk := rk_l hg hi
  have hi6 : i < 6 := by have := hg.rn6; omega
  refine wa_aload_n dX6_warmIn_0 rfl ?_
  refine wa_iload_n dX6_warmIn_1 rfl ?_
  refine c_VA dX6_warmIn_2 (vr_roomAt hn h hi6 hk.2) lk_X6_134 rfl (isO_VR _ _ _) rfl (ltS hn) ?_
  refine wa_pop dX6_warmIn_5 rfl ?_
  refine wa_aload_n dX6_warmIn_6 rfl ?_
  refine c_VQV dX6_warmIn_7 (vr_startTrial hn h hg) lk_X6_224 rfl (isO_VR _ _ _) rfl (ltS hn) (fun S1 q1 => ?_)
  refine wa_aload_n dX6_warmIn_10 rfl ?_
  refine g_VR (by assumption) 5 dX6_warmIn_11 fl_X6_30 (by decide) rfl ?_
  refine g_HO q1.1.H hn 10 dX6_warmIn_14 fl_X6_231 (by decide) rfl ?_
  refine wa_iload_n dX6_warmIn_17 rfl ?_
  refine L_room q1.1.H hn (ix_nI (by omega)) hi6 dX6_warmIn_18 ?_
  refine wa_astore_n dX6_warmIn_19 rfl ?_
  refine wa_iconst (x := 0) dX6_warmIn_20 (by decide) ?_
  refine wa_istore_n dX6_warmIn_21 rfl ?_
  exact lpv_warmIn hn hg hi hT 501 0 S1 (Nat.zero_add _) (q1.1.wk (fun _ _ => trivial)) q1.2 rfl (fun S' hf' => ⟨Nat.le_refl _, Nat.le_refl _, ⟨_, rfl, rfl⟩, rfl, _, S', rfl, rfl, hf', rfl⟩)
theorem vr_emptyIn_1 {n : Nat} {S : SS} {g : Nat → Int32} {T : Int} (hn : 279 ≤ n) (h : HH S 34 g (fun _ => True)) (hg : GG T g) (r : Int32) (h1 : ¬ ((0 ≤ r ∧ r < g 0))) : AM yX6_emptyIn cX6_emptyIn 4 (some .int) [] 8 1 6 [.ref 0, .int r] n (Hp S) (PX ab_xI n S) := by
  intro has
  change WA RX6 cX6_emptyIn 4 [] _ _ 0 0 0 [some (.ref 0), some (.int r), none, none] [] n _
  refine wa_aload_n dX6_emptyIn_0 rfl ?_
  refine wa_iload_n dX6_emptyIn_1 rfl ?_
  exact c_VX dX6_emptyIn_2 (vr_roomAtX hn h h1) lk_X6_134 rfl (isO_VR _ _ _) rfl (ltS hn) (wt_out ⟨Nat.le_refl _, Nat.le_refl _, trivial, rfl, rfl, rfl⟩ (by decide))
theorem lpv_emptyIn {Q : ab_Q} {v : Int32} {n j : Nat} {S0 : SS} {g : Nat → Int32} {T : Int} (hn : 279 ≤ n) (hg : GG T g) (hj : j < rn g) (hT : T ≤ 199000) :
    ∀ (r k : Nat) (S1 : SS), k + r = 501 → HH S1 57 (ticksN g k) (fun i => i = j) → FRc 57 S0 S1 → fst (fun k => of (ticksN g k) j 2 = 0) r k = v → (∀ S', FRc 57 S0 S' → Q (.inl (some (.int v))) 0 0 n (Hp S')) → WA RX6 cX6_emptyIn 4 [] (ab_rm 8 0 0) Q 0 0 22 [some (.ref 0), some (.int (nI j)), some (.ref (57 + 5 + 3 * j)), some (.int (nI (k)))] [] n (Hp S1) := by
  intro r
  induction r with
  | zero =>
    intro k S1 hk h hfr hv hQ
    have hk2 : k = 501 := by omega
    refine wa_iload_n dX6_emptyIn_22 rfl ?_
    refine wa_sipush (x := 500) dX6_emptyIn_23 (by decide) ?_
    refine wa_icmp_gt 52 dX6_emptyIn_26 rfl (fun c26 => ?_) (fun c26 => absurd (by rw [hk2]; decide) c26)
    refine wa_iconst (x := (-1)) dX6_emptyIn_52 (by decide) ?_
    exact wa_ireturn dX6_emptyIn_53 (by
      rw [show (-1 : Int32) = v from hv]
      exact hQ S1 hfr)
  | succ r ih =>
    intro k S1 hk h hfr hv hQ
    have hgk := GG_ticks hg k (by omega)
    have okk := (GG_tick hgk (by omega)).2
    have hj6 : j < 6 := by have := hg.rn6; omega
    have hjk : j < rn (ticksN g k) := by rw [rn_ticks]; exact hj
    have hl := h.lvP hjk rfl
    refine wa_iload_n dX6_emptyIn_22 rfl ?_
    refine wa_sipush (x := 500) dX6_emptyIn_23 (by decide) ?_
    refine wa_icmp_gt 52 dX6_emptyIn_26 rfl (fun c26 => absurd c26 (Int32.not_lt.mpr (show nI k ≤ 500 from nI_le (b := 500) (by omega) (by decide)))) (fun c26 => ?_)
    refine wa_aload_n dX6_emptyIn_29 rfl ?_
    refine L_n hl hn 2 dX6_emptyIn_30 fl_X6_146 (by decide) (fun _ _ _ => rfl) ?_
    refine wa_if_ne 38 dX6_emptyIn_33 rfl (fun c33 => ?_) (fun c33 => ?_)
    · refine wa_aload_n dX6_emptyIn_38 rfl ?_
      refine g_VR (by assumption) 5 dX6_emptyIn_39 fl_X6_30 (by decide) rfl ?_
      refine wa_iload_n dX6_emptyIn_42 rfl ?_
      refine c_VQV dX6_emptyIn_43 (hh_passTickIn hn h hjk hgk.e3 hgk.2.2.1 (okk j hjk)) lk_X6_235 rfl (isH.HO isH_trial _ _ _) rfl (lt_HO isH_trial hn) (fun S2 q2 => ?_)
      refine wa_iinc (y := 1) dX6_emptyIn_46 rfl (by decide) rfl ?_
      refine wa_goto 22 dX6_emptyIn_49 rfl ?_
      have e9 : fst (fun k => of (ticksN g k) j 2 = 0) (r + 1) k = fst (fun k => of (ticksN g k) j 2 = 0) r (k + 1) := if_neg (c33)
      rw [nI_1 k]
      exact ih (k + 1) S2 (by omega) q2.1 (hfr.tr q2.2.c) (e9.symm.trans hv) hQ
    · refine wa_iload_n dX6_emptyIn_36 rfl ?_
      exact wa_ireturn dX6_emptyIn_37 (by
        have e9 : fst (fun k => of (ticksN g k) j 2 = 0) (r + 1) k = nI k := if_pos (c33)
        rw [← e9, hv]
        exact hQ S1 hfr)
theorem vr_emptyIn_0 {n i : Nat} {S : SS} {g : Nat → Int32} {T : Int} (hn : 279 ≤ n) (h : HH S 34 g (fun _ => True)) (hg : GG T g) (hi : i < rn g) (hT : T ≤ 199000) : AM yX6_emptyIn cX6_emptyIn 4 (some .int) [] 8 0 0 [.ref 0, .int (nI i)] n (Hp S) (PIe n (fun v S' => FRc 57 S S' ∧ v = fst (fun k => of (ticksN g k) i 2 = 0) 501 0)) := by
  intro has
  change WA RX6 cX6_emptyIn 4 [] _ _ 0 0 0 [some (.ref 0), some (.int (nI i)), none, none] [] n _
  have hk := rk_l hg hi
  have hi6 : i < 6 := by have := hg.rn6; omega
  refine wa_aload_n dX6_emptyIn_0 rfl ?_
  refine wa_iload_n dX6_emptyIn_1 rfl ?_
  refine c_VA dX6_emptyIn_2 (vr_roomAt hn h hi6 hk.2) lk_X6_134 rfl (isO_VR _ _ _) rfl (ltS hn) ?_
  refine wa_pop dX6_emptyIn_5 rfl ?_
  refine wa_aload_n dX6_emptyIn_6 rfl ?_
  refine c_VQV dX6_emptyIn_7 (vr_startTrial hn h hg) lk_X6_224 rfl (isO_VR _ _ _) rfl (ltS hn) (fun S1 q1 => ?_)
  refine wa_aload_n dX6_emptyIn_10 rfl ?_
  refine g_VR (by assumption) 5 dX6_emptyIn_11 fl_X6_30 (by decide) rfl ?_
  refine g_HO q1.1.H hn 10 dX6_emptyIn_14 fl_X6_231 (by decide) rfl ?_
  refine wa_iload_n dX6_emptyIn_17 rfl ?_
  refine L_room q1.1.H hn (ix_nI (by omega)) hi6 dX6_emptyIn_18 ?_
  refine wa_astore_n dX6_emptyIn_19 rfl ?_
  refine wa_iconst (x := 0) dX6_emptyIn_20 (by decide) ?_
  refine wa_istore_n dX6_emptyIn_21 rfl ?_
  exact lpv_emptyIn hn hg hi hT 501 0 S1 (Nat.zero_add _) (q1.1.wk (fun _ _ => trivial)) q1.2 rfl (fun S' hf' => ⟨Nat.le_refl _, Nat.le_refl _, ⟨_, rfl, rfl⟩, rfl, _, S', rfl, rfl, hf', rfl⟩)
theorem vr_bestGain_1 {n : Nat} {S : SS} {g : Nat → Int32} {T : Int} (hn : 279 ≤ n) (h : HH S 34 g (fun _ => True)) (hg : GG T g) (r : Int32) (h1 : ¬ ((0 ≤ r ∧ r < g 0))) : AM yX6_bestGain cX6_bestGain 6 (some .int) [] 8 1 6 [.ref 0, .int r] n (Hp S) (PX ab_xI n S) := by
  intro has
  change WA RX6 cX6_bestGain 6 [] _ _ 0 0 0 [some (.ref 0), some (.int r), none, none, none, none] [] n _
  refine wa_aload_n dX6_bestGain_0 rfl ?_
  refine wa_iload_n dX6_bestGain_1 rfl ?_
  exact c_VX dX6_bestGain_2 (vr_roomAtX hn h h1) lk_X6_134 rfl (isO_VR _ _ _) rfl (ltS hn) (wt_out ⟨Nat.le_refl _, Nat.le_refl _, trivial, rfl, rfl, rfl⟩ (by decide))
def bgc (L : Nat → Int32) : Nat → Int32 × Int32
  | 0 => (-1, 0)
  | k + 1 => if (bgc L k).1 = -1 ∨ L (k + 1) < (bgc L k).2 then (nI (k + 1), L (k + 1)) else bgc L k
theorem bgc_bg {L : Nat → Int32} (h : L 1 < 2147483647) : ∀ k, k < 1000 → bgc L (k + 1) = bg L (k + 1) ∧ ¬ (bgc L (k + 1)).1 = -1
  | 0, _ => by
    have e1 : bgc L 1 = (nI 1, L 1) := if_pos (Or.inl rfl)
    have e2 : bg L 1 = (nI 1, L 1) := by
      show (if L 1 < 2147483647 then nI 1 else 0, i_min 2147483647 (L 1)) = _
      rw [if_pos h]
      unfold i_min
      rw [if_pos h]
    rw [e1, e2]
    exact ⟨rfl, nI_m1 (b := 1) (by decide)⟩
  | k + 1, hk => by
    obtain ⟨h1, h2⟩ := bgc_bg h k (by omega)
    have e2 : bg L (k + 1 + 1) = (if L (k + 1 + 1) < (bg L (k + 1)).2 then nI (k + 1 + 1) else (bg L (k + 1)).1, i_min (bg L (k + 1)).2 (L (k + 1 + 1))) := rfl
    have e1 : bgc L (k + 1 + 1) = if (bgc L (k + 1)).1 = -1 ∨ L (k + 1 + 1) < (bgc L (k + 1)).2 then (nI (k + 1 + 1), L (k + 1 + 1)) else bgc L (k + 1) := rfl
    by_cases q : L (k + 1 + 1) < (bg L (k + 1)).2
    · rw [if_pos (Or.inr (by rw [h1]; exact q))] at e1
      rw [if_pos q] at e2
      unfold i_min at e2
      rw [if_pos q] at e2
      rw [e1, e2]
      exact ⟨rfl, nI_m1 (by omega)⟩
    · rw [if_neg (fun z => z.elim h2 (fun w => q (by rw [← h1]; exact w)))] at e1
      rw [if_neg q] at e2
      unfold i_min at e2
      rw [if_neg q] at e2
      rw [e1, e2, h1]
      exact ⟨rfl, by rw [← h1]; exact h2⟩
theorem lack_i {T : Int} {g : Nat → Int32} {i : Nat} (hg : GG T g) (hi : i < rn g) : ∀ k : Nat, T + k ≤ 200000 → k ≤ 1000 → 0 ≤ (lackN g i k).toInt ∧ (lackN g i k).toInt ≤ 600 * k
  | 0, _, _ => by
    show 0 ≤ (0 : Int32).toInt ∧ (0 : Int32).toInt ≤ _
    rw [Int32.toInt_zero]; omega
  | k + 1, hk, hk2 => by
    obtain ⟨h1, h2⟩ := lack_i hg hi k (by omega) (by omega)
    have hgk := GG_ticks hg (k + 1) (by omega)
    have hm := (mis_b (hgk.2.2.2.2 i (by rw [rn_ticks]; exact hi)).2 hgk.2.1 (hgk.PT i) hgk.T0 (by omega)).2.2
    show 0 ≤ (lackN g i k + i_max 0 (mis (ticksN g (k + 1)) i)).toInt ∧ (lackN g i k + i_max 0 (mis (ticksN g (k + 1)) i)).toInt ≤ _
    have e := i_max_i 0 (mis (ticksN g (k + 1)) i)
    rw [Int32.toInt_zero] at e
    rw [i_add (by omega) (by omega)]
    omega
theorem lpv_bestGain {Q : ab_Q} {n i : Nat} {S0 : SS} {g : Nat → Int32} {T : Int} {L : Nat → Int32} (hn : 279 ≤ n) (hg : GG T g) (hi : i < rn g) (hT : T ≤ 199000) (eL : ∀ a, L a = lackN (upd g 8 (nI a)) i 48) :
    ∀ (r k : Nat) (S1 : SS) (l5 : Option Value), k + r = 50 → HH S1 34 g (fun _ => True) → FRc 57 S0 S1 → (∀ S', FRc 57 S0 S' → Q (.inl (some (.int (bgc L 50).1))) 0 0 n (Hp S')) → WA RX6 cX6_bestGain 6 [] (ab_rm 8 0 0) Q 0 0 13 [some (.ref 0), some (.int (nI i)), some (.int (bgc L k).1), some (.int (bgc L k).2), some (.int (nI (k + 1))), l5] [] n (Hp S1) := by
  intro r
  induction r with
  | zero =>
    intro k S1 l5 hk h hfr hQ
    have hk2 : k = 50 := by omega
    refine wa_iload dX6_bestGain_13 rfl ?_
    refine wa_bipush (x := 50) dX6_bestGain_15 (by decide) ?_
    refine wa_icmp_gt 65 dX6_bestGain_17 rfl (fun c17 => ?_) (fun c17 => absurd (by rw [hk2]; decide) c17)
    refine wa_iload_n dX6_bestGain_65 rfl ?_
    exact wa_ireturn dX6_bestGain_66 (by rw [hk2]; exact hQ S1 hfr)
  | succ r ih =>
    intro k S1 l5 hk h hfr hQ
    refine wa_iload dX6_bestGain_13 rfl ?_
    refine wa_bipush (x := 50) dX6_bestGain_15 (by decide) ?_
    refine wa_icmp_gt 65 dX6_bestGain_17 rfl (fun c17 => absurd c17 (Int32.not_lt.mpr (show nI (k + 1) ≤ 50 from nI_le (b := 50) (by omega) (by decide)))) (fun c17 => ?_)
    refine wa_aload_n dX6_bestGain_20 rfl ?_
    refine c_VQV dX6_bestGain_21 (vr_startTrial hn h hg) lk_X6_224 rfl (isO_VR _ _ _) rfl (ltS hn) (fun S2 q2 => ?_)
    refine wa_aload_n dX6_bestGain_24 rfl ?_
    refine g_VR (by assumption) 5 dX6_bestGain_25 fl_X6_30 (by decide) rfl ?_
    refine wa_iload dX6_bestGain_28 rfl ?_
    refine p_HO isH_trial hn 6 dX6_bestGain_30 fl_X6_125 (by decide) rfl rfl rfl rfl (fun _ _ _ => rfl) (Nat.le_of_ble_eq_true rfl) ?_
    have u1 : HH (ss S2 57 6 (nI (k + 1))) 57 (upd g 8 (nI (k + 1))) (fun _ => True) := q2.1.h1 (j := 6) (by decide) _
    have f1 : FRc 57 S0 (ss S2 57 6 (nI (k + 1))) := (hfr.tr q2.2).tr (FRh.rf.ss ⟨Nat.le_refl _, by omega⟩ 6 _).c
    have hgk : GG T (upd g 8 (nI (k + 1))) := GG_upd _ hg (by decide) (by decide) (by decide) (by decide) (GH_8 hg.2.1 (by rw [nI_toInt (by omega)]; omega))
    refine wa_aload_n dX6_bestGain_33 rfl ?_
    refine wa_iload_n dX6_bestGain_34 rfl ?_
    refine wa_bipush (x := 48) dX6_bestGain_35 (by decide) ?_
    refine c_VQI dX6_bestGain_37 (vr_tryLack (S := ss S2 57 6 (nI (k + 1))) (N := 48) hn hgk (by rw [show rn (upd g 8 (nI (k + 1))) = rn g from rn_cg (upd_o (by decide))]; exact hi) (by omega) (by omega) (u1.wk (fun _ _ => trivial))) lk_X6_242 rfl (isO_VR _ _ _) rfl (ltS hn) (fun v3 S3 q3 => ?_)
    rw [q3.2, ← eL (k + 1)]
    refine wa_istore dX6_bestGain_40 rfl ?_
    refine wa_iload_n dX6_bestGain_42 rfl ?_
    refine wa_iconst (x := (-1)) dX6_bestGain_43 (by decide) ?_
    refine wa_icmp_eq 53 dX6_bestGain_44 rfl (fun c44 => ?_) (fun c44 => ?_)
    · refine wa_iload dX6_bestGain_53 rfl ?_
      refine wa_istore_n dX6_bestGain_55 rfl ?_
      refine wa_iload dX6_bestGain_56 rfl ?_
      refine wa_istore_n dX6_bestGain_58 rfl ?_
      refine wa_iinc (y := 1) dX6_bestGain_59 rfl (by decide) rfl ?_
      refine wa_goto 13 dX6_bestGain_62 rfl ?_
      rw [nI_1 (k + 1)]
      have z := ih (k + 1) S3 (some (.int (L (k + 1)))) (by omega) (h.frc (q2.2.tr ((FRh.rf.ss (a := 57) ⟨Nat.le_refl _, by omega⟩ 6 _).c.tr q3.1)) (by decide)) (f1.tr q3.1) hQ
      first
      | (rw [show bgc L (k + 1) = (nI (k + 1), L (k + 1)) from if_pos (Or.inl c44)] at z; exact z)
      | (rw [show bgc L (k + 1) = (nI (k + 1), L (k + 1)) from if_pos (Or.inr (Int32.not_le.mp c50))] at z; exact z)
      | (rw [show bgc L (k + 1) = bgc L k from if_neg (fun y => y.elim c44 (fun w => Int32.not_lt.mpr c50 w))] at z; exact z)
    · refine wa_iload dX6_bestGain_47 rfl ?_
      refine wa_iload_n dX6_bestGain_49 rfl ?_
      refine wa_icmp_ge 59 dX6_bestGain_50 rfl (fun c50 => ?_) (fun c50 => ?_)
      · refine wa_iinc (y := 1) dX6_bestGain_59 rfl (by decide) rfl ?_
        refine wa_goto 13 dX6_bestGain_62 rfl ?_
        rw [nI_1 (k + 1)]
        have z := ih (k + 1) S3 (some (.int (L (k + 1)))) (by omega) (h.frc (q2.2.tr ((FRh.rf.ss (a := 57) ⟨Nat.le_refl _, by omega⟩ 6 _).c.tr q3.1)) (by decide)) (f1.tr q3.1) hQ
        first
        | (rw [show bgc L (k + 1) = (nI (k + 1), L (k + 1)) from if_pos (Or.inl c44)] at z; exact z)
        | (rw [show bgc L (k + 1) = (nI (k + 1), L (k + 1)) from if_pos (Or.inr (Int32.not_le.mp c50))] at z; exact z)
        | (rw [show bgc L (k + 1) = bgc L k from if_neg (fun y => y.elim c44 (fun w => Int32.not_lt.mpr c50 w))] at z; exact z)
      · refine wa_iload dX6_bestGain_53 rfl ?_
        refine wa_istore_n dX6_bestGain_55 rfl ?_
        refine wa_iload dX6_bestGain_56 rfl ?_
        refine wa_istore_n dX6_bestGain_58 rfl ?_
        refine wa_iinc (y := 1) dX6_bestGain_59 rfl (by decide) rfl ?_
        refine wa_goto 13 dX6_bestGain_62 rfl ?_
        rw [nI_1 (k + 1)]
        have z := ih (k + 1) S3 (some (.int (L (k + 1)))) (by omega) (h.frc (q2.2.tr ((FRh.rf.ss (a := 57) ⟨Nat.le_refl _, by omega⟩ 6 _).c.tr q3.1)) (by decide)) (f1.tr q3.1) hQ
        first
        | (rw [show bgc L (k + 1) = (nI (k + 1), L (k + 1)) from if_pos (Or.inl c44)] at z; exact z)
        | (rw [show bgc L (k + 1) = (nI (k + 1), L (k + 1)) from if_pos (Or.inr (Int32.not_le.mp c50))] at z; exact z)
        | (rw [show bgc L (k + 1) = bgc L k from if_neg (fun y => y.elim c44 (fun w => Int32.not_lt.mpr c50 w))] at z; exact z)
theorem vr_bestGain_0 {n i : Nat} {S : SS} {g : Nat → Int32} {T : Int} (hn : 279 ≤ n) (h : HH S 34 g (fun _ => True)) (hg : GG T g) (hi : i < rn g) (hT : T ≤ 199000) : AM yX6_bestGain cX6_bestGain 6 (some .int) [] 8 0 0 [.ref 0, .int (nI i)] n (Hp S) (PIe n (fun v S' => FRc 57 S S' ∧ v = (bg (fun a => lackN (upd g 8 (nI a)) i 48) 50).1)) := by
  intro has
  change WA RX6 cX6_bestGain 6 [] _ _ 0 0 0 [some (.ref 0), some (.int (nI i)), none, none, none, none] [] n _
  have hk := rk_l hg hi
  have hi6 : i < 6 := by have := hg.rn6; omega
  refine wa_aload_n dX6_bestGain_0 rfl ?_
  refine wa_iload_n dX6_bestGain_1 rfl ?_
  refine c_VA dX6_bestGain_2 (vr_roomAt hn h hi6 hk.2) lk_X6_134 rfl (isO_VR _ _ _) rfl (ltS hn) ?_
  refine wa_pop dX6_bestGain_5 rfl ?_
  refine wa_iconst (x := (-1)) dX6_bestGain_6 (by decide) ?_
  refine wa_istore_n dX6_bestGain_7 rfl ?_
  refine wa_iconst (x := 0) dX6_bestGain_8 (by decide) ?_
  refine wa_istore_n dX6_bestGain_9 rfl ?_
  refine wa_iconst (x := 1) dX6_bestGain_10 (by decide) ?_
  refine wa_istore dX6_bestGain_11 rfl ?_
  have hg1 : GG T (upd g 8 (nI 1)) := GG_upd _ hg (by decide) (by decide) (by decide) (by decide) (GH_8 hg.2.1 (by decide))
  have hL1 : lackN (upd g 8 (nI 1)) i 48 < 2147483647 := by
    have q := lack_i hg1 (by rw [show rn (upd g 8 (nI 1)) = rn g from rn_cg (upd_o (by decide))]; exact hi) 48 (by omega) (by omega)
    have k9 : (2147483647 : Int32).toInt = 2147483647 := by decide
    rw [Int32.lt_iff_toInt_lt, k9]
    omega
  exact lpv_bestGain (L := fun a => lackN (upd g 8 (nI a)) i 48) hn hg hi hT (fun _ => rfl) 50 0 S none rfl h FRc.rf (fun S' hf' => ⟨Nat.le_refl _, Nat.le_refl _, ⟨_, rfl, rfl⟩, rfl, _, S', rfl, rfl, hf', by rw [(bgc_bg (L := fun a => lackN (upd g 8 (nI a)) i 48) hL1 49 (by omega)).1]⟩)
