/-! ValveRoom$Parser: parse. Written by program (wip/whole/gen/m826.py) but for the heads. -/
theorem tk_end {b : Nat → Int32} {N : Nat} (t : Nat) : tk b N (pos b N t) = 0 ↔ ¬ pos b N t < N := by
  have hr : ∃ x, pos b N t = run b N 0 x := by
    cases t with
    | zero => exact ⟨0, rfl⟩
    | succ t => exact ⟨te b N (pos b N t), rfl⟩
  obtain ⟨x, hx⟩ := hr
  have h1 := run_end b N 0 x
  rw [← hx] at h1
  unfold tk
  by_cases h : pos b N t < N
  · rw [if_pos h]
    exact ⟨fun z => absurd ⟨h, z⟩ h1, fun z => absurd h z⟩
  · rw [if_neg h]
    exact ⟨fun _ => h, fun _ => rfl⟩
theorem pb_r {α β : Type} {x : PR α} {f : α → PR β} {y : β} (h : pb x f = .inr y) : ∃ a, x = .inr a ∧ f a = .inr y := by
  cases x with
  | inl e => exact absurd h (by simp [pb])
  | inr a => exact ⟨a, rfl, h⟩
theorem rk_once {b : Nat → Int32} {N k : Nat} {s s' : PST} (h : pOnce b N k s = .inr s') : rn s'.2.1 = rn s.2.1 := by
  unfold pOnce at h
  by_cases e : s.2.2.testBit k = true
  · rw [if_pos e] at h
    cases h
  · rw [if_neg e] at h
    rw [← Sum.inr.inj h]
theorem rk_hdr {b : Nat → Int32} {N j lo hi : Nat} {s s' : PST} (hj : ¬ j = 0) (h : pHdr b N j lo hi s = .inr s') : rn s'.2.1 = rn s.2.1 := by
  obtain ⟨a, -, h2⟩ := pb_r h
  rw [← Sum.inr.inj h2]
  exact rn_cg (upd_o (fun z => hj z.symm))
theorem rk_hold {b : Nat → Int32} {N : Nat} {s s' : PST} (h : pHold b N s = .inr s') : rn s'.2.1 = rn s.2.1 := by
  obtain ⟨a, -, h2⟩ := pb_r h
  rw [← Sum.inr.inj h2]
  exact rn_cg (show upd s.2.1 5 (nI a.1) 0 = s.2.1 0 from upd_o (by decide))
theorem rk_out1 {b : Nat → Int32} {N : Nat} {s s' : PST} (h : pOut1 b N s = .inr s') : rn s'.2.1 = rn s.2.1 := by
  unfold pOut1 at h
  by_cases e : isS b N 45 s.1 = true
  · rw [if_pos e] at h
    obtain ⟨a, -, h2⟩ := pb_r h
    rw [← Sum.inr.inj h2]
    exact rn_cg (show upd s.2.1 2 (-nI a.1) 0 = s.2.1 0 from upd_o (by decide))
  · rw [if_neg e] at h
    exact rk_hdr (by decide) h
theorem rk_ent {b : Nat → Int32} {N r : Nat} {s s' : PST} (h : pEntry b N r s = .inr s') : rn s'.2.1 = rn s.2.1 := by
  obtain ⟨a, -, h2⟩ := pb_r h
  by_cases e : pg s.2.1 r a = 0
  · rw [if_pos e] at h2
    obtain ⟨c, -, h3⟩ := pb_r h2
    obtain ⟨d, -, h4⟩ := pb_r h3
    rw [← Sum.inr.inj h4]
    exact rn_cg (pt_lo _ _ (by decide))
  · rw [if_neg e] at h2
    cases h2
theorem rk_ents {b : Nat → Int32} {N r : Nat} : ∀ (f : Nat) {s s' : PST}, pEntries b N r f s = .inr s' → rn s'.2.1 = rn s.2.1
  | 0, s, s', h => by rw [← Sum.inr.inj h]
  | f + 1, s, s', h => by
    obtain ⟨a, h1, h2⟩ := pb_r (show pb (pEntry b N r s) (fun s' => if isS b N 44 s'.1 then pEntries b N r f s' else .inr s') = .inr s' from h)
    by_cases e : isS b N 44 a.1 = true
    · rw [if_pos e] at h2
      exact (rk_ents f h2).trans (rk_ent h1)
    · rw [if_neg e] at h2
      rw [← Sum.inr.inj h2]
      exact rk_ent h1
theorem rk_S0 {b : Nat → Int32} {N : Nat} {s s' : PST} (hr : ¬ wd b N (kw 6) s.1 = true) (hp : pn s.2.1 ≤ 20) (h : pS0 b N s = .inr s') : rn s'.2.1 = rn s.2.1 := by
  unfold pS0 at h
  by_cases e0 : wd b N (kw 0) s.1 = true
  · rw [if_pos e0] at h
    obtain ⟨a, h1, h2⟩ := pb_r h
    exact (rk_out1 h2).trans (rk_once h1)
  rw [if_neg e0] at h
  by_cases e1 : wd b N (kw 1) s.1 = true
  · rw [if_pos e1] at h
    obtain ⟨a, h1, h2⟩ := pb_r h
    obtain ⟨c, h3, h4⟩ := pb_r h1
    exact (rk_hold h2).trans ((rk_hdr (by decide) h4).trans (rk_once h3))
  rw [if_neg e1] at h
  by_cases e3 : wd b N (kw 3) s.1 = true
  · rw [if_pos e3] at h
    obtain ⟨a, h1, h2⟩ := pb_r h
    exact (rk_hdr (by decide) h2).trans (rk_once h1)
  rw [if_neg e3] at h
  by_cases e4 : wd b N (kw 4) s.1 = true
  · rw [if_pos e4] at h
    obtain ⟨a, h1, h2⟩ := pb_r h
    obtain ⟨c, h3, h4⟩ := pb_r h1
    obtain ⟨d, h5, h6⟩ := pb_r h3
    exact (rk_hdr (by decide) h2).trans ((rk_hdr (by decide) h4).trans ((rk_hdr (by decide) h6).trans (rk_once h5)))
  rw [if_neg e4] at h
  by_cases e5 : wd b N (kw 5) s.1 = true
  · rw [if_pos e5] at h
    obtain ⟨a, h1, h2⟩ := pb_r h
    exact (rk_hdr (by decide) h2).trans (rk_once h1)
  rw [if_neg e5, if_neg hr] at h
  by_cases e12 : wd b N (kw 12) s.1 = true
  · rw [if_pos e12] at h
    obtain ⟨a, h1, h2⟩ := pb_r h
    by_cases e : cnt (pg s.2.1 a) 48 = 0
    · rw [if_pos e] at h2
      exact rk_ents (s := (nx b N s.1, s.2)) _ h2
    · rw [if_neg e] at h2
      cases h2
  rw [if_neg e12] at h
  by_cases e13 : wd b N (kw 13) s.1 = true
  · rw [if_pos e13] at h
    obtain ⟨a, h1, h2⟩ := pb_r h
    rw [← Sum.inr.inj h2]
    exact rn_cg (show f_plan (nI a.1) (nI a.2.1) (nI a.2.2.1) s.2.1 0 = s.2.1 0 from ins_lo (by decide) (Or.inl (by decide)))
  rw [if_neg e13] at h
  cases h
/-- what a good text leaves -/
def PL (b : Nat → Int32) (N c : Nat) : PST → Nat → SS → Prop := fun s n' S' => ∃ t' nf' nl', CS b N c n' S' t' s.2.2 s.2.1 nf' nl'
theorem RBn.fr {α : Type} {n n1 n' : Nat} {S0 S1 S' : SS} {x : PR α} {P : α → Nat → SS → Prop} {v : Int32} (h : RBn n1 S1 x P v n' S') (f : FRn n S0 S1) (hn : n ≤ n1) : RBn n S0 x P v n' S' := ⟨f.tr h.1 hn, h.2⟩
theorem RBn.eq {α : Type} {n n' : Nat} {S0 S' : SS} {x y : PR α} {P : α → Nat → SS → Prop} {v : Int32} (h : RBn n S0 x P v n' S') (e : x = y) : RBn n S0 y P v n' S' := e ▸ h
theorem RBn.nar {α : Type} {n n' : Nat} {S0 S' : SS} {x : PR α} {P : α → Nat → SS → Prop} {v : Int32} (h : RBn n S0 x P v n' S') : narrow .boolean (.int v) = .int v := by
  have h2 := h.2
  cases x with
  | inl q =>
    rw [h2.1]
    exact bool01.1
  | inr a =>
    rw [h2.1]
    exact bool01.2
theorem pS0_full {b : Nat → Int32} {N t told : Nat} {δ : Nat → Int32} (hi : kwf b N (pos b N t) = some 6) (h6 : rn δ = 6) : pS0 b N (pos b N t, δ, told) = .inl (5, pos b N t) := by
  unfold pS0
  rw [if_neg (wd_no hi (j := 0) (by decide) (by decide)), if_neg (wd_no hi (j := 1) (by decide) (by decide)), if_neg (wd_no hi (j := 3) (by decide) (by decide)), if_neg (wd_no hi (j := 4) (by decide) (by decide)), if_neg (wd_no hi (j := 5) (by decide) (by decide)), if_pos ((kwf_wd (by decide)).mp hi)]
  have : pRoom1 b N (pos b N t, δ, told) = .inl (5, pos b N t) := if_pos h6
  rw [this]
  rfl
theorem px_takeNewRoom_f {b : Nat → Int32} {N c n : Nat} {S : SS} {t told : Nat} {δ : Nat → Int32} {nf : Nat → Nat → Int32} {nl : Nat → Nat} (hn : 269 ≤ n) (h : CS b N c n S t told δ nf nl) (hr6 : rn δ = 6) : AM yX3_takeNewRoom cX3_takeNewRoom 1 (some .boolean) [] 6 0 0 [.ref 1] n (Hp S) (PIe n (RB S (.inl (5, pos b N t) : PR PST) (fun _ _ => True))) := by
  intro has
  change WA RX3 cX3_takeNewRoom 1 [] _ _ 0 0 0 [some (.ref 1)] [] n _
  have ht := h.tL
  have hc := h.cL
  refine wa_aload_n dX3_takeNewRoom_0 rfl ?_
  refine g_PA (by assumption) 2 dX3_takeNewRoom_1 fl_X3_18 (by decide) rfl ?_
  refine H_hd h.hh hn 9 dX3_takeNewRoom_4 fl_X3_140 (by decide) (by decide) (fun _ _ _ => rfl) ?_
  rw [show δ (hm 9) = nI (rn δ) from h.gg.1.e0]
  refine wa_bipush (x := 6) dX3_takeNewRoom_7 (by decide) ?_
  refine wa_icmp_lt 18 dX3_takeNewRoom_9 rfl (fun c9 => absurd c9 (by rw [hr6]; decide)) (fun c9 => ?_)
  refine wa_aload_n dX3_takeNewRoom_12 rfl ?_
  refine wa_iconst (x := 5) dX3_takeNewRoom_13 (by decide) ?_
  refine c_VI dX3_takeNewRoom_14 (px_fail (S := S) hn h 5) lk_X3_56 rfl (isO_PA _ _ _) rfl (ltS hn) ?_
  exact wa_ireturn dX3_takeNewRoom_17 ⟨Nat.le_refl _, Nat.le_refl _, ⟨_, rfl, rfl⟩, rfl, _, _, rfl, rfl, RB.ofl (e := (5, pos b N t)) rfl (fail_fr FRps.rf _ _) (fail_err _ _ _)⟩
theorem px_takeStatement_f {b : Nat → Int32} {N c n : Nat} {S : SS} {t told : Nat} {δ : Nat → Int32} {nf : Nat → Nat → Int32} {nl : Nat → Nat} (hn : 269 ≤ n) (h : CS b N c n S t told δ nf nl) (hi : kwf b N (pos b N t) = some 6) (hr6 : rn δ = 6) : AM yX3_takeStatement cX3_takeStatement 2 (some .boolean) [] 8 0 0 [.ref 1] n (Hp S) (PMe n 0 (RBn n S (pS0 b N (pos b N t, δ, told)) (POr b N c t δ))) := by
  intro has
  change WA RX3 cX3_takeStatement 2 [] _ _ 0 0 0 [some (.ref 1), none] [] n _
  refine px_sw hn h (by decide) hi ?_
  have hk0 := wd_ne ((kwf_wd (by decide)).mp hi)
  refine wa_aload_n dX3_takeStatement_183 rfl ?_
  refine c_VQI dX3_takeStatement_184 (px_takeNewRoom_f hn h hr6) lk_X3_133 rfl (isO_PA _ _ _) rfl (ltS hn) (fun w1 S1 r1 => ?_)
  obtain ⟨f1, rfl, q1⟩ := RB.l rfl r1
  refine wa_if_eq 218 dX3_takeStatement_187 rfl (fun c187 => ?_) (fun c187 => absurd rfl c187)
  refine wa_iconst (x := 0) dX3_takeStatement_218 (by decide) ?_
  exact wa_ireturn dX3_takeStatement_219 ⟨by decide, by decide, ⟨_, rfl, rfl⟩, _, _, rfl, rfl, Nat.le_refl _, Nat.le_refl _, RBn.ofl (pS0_full hi hr6) f1.n q1⟩
theorem lp_parse {Q : ab_Q} {b : Nat → Int32} {N c : Nat} (hW : WHT) :
    ∀ (f t i n k z told : Nat) (S : SS) (δ : Nat → Int32) (nf : Nat → Nat → Int32) (nl : Nat → Nat), 269 ≤ n → n + 3 * (6 - rn δ) + 1 ≤ ab_CB → sbr S < n → k ≤ 3 * rn δ → z ≤ 16 * rn δ → CS b N c n S t told δ nf nl → i ≤ t → N < pos b N t + f → (∀ v n' k' z' S', n ≤ n' → n' ≤ n + 3 * (6 - rn δ) → k' ≤ 18 → z' ≤ 96 → RBn n S (pAll b N f (pos b N t, δ, told)) (PL b N c) v n' S' → Q (.inl (some (.int v))) k' z' n' (Hp S')) → WA RX3 cX3_parse 2 [] (ab_rm 9 18 96) Q k z 57 [some (.ref 1), some (.int (nI i))] [] n (Hp S) := by
  intro f
  induction f with
  | zero =>
    intro t i n k z told S δ nf nl hn hnb hsb hk9 hz9 h hi hf hQ
    have hp := pos_N b N t
    omega
  | succ f ih =>
    intro t i n k z told S δ nf nl hn hnb hsb hk9 hz9 h hi hf hQ
    have ht := h.tL
    have hc := h.cL
    have h6 := h.gg.1.rn6
    by_cases hz : t + 1 = c
    · have hz0 : tk b N (pos b N t) = 0 := (tk_end t).mpr (h.end.mp hz)
      refine wa_iload_n dX3_parse_57 rfl ?_
      refine wa_aload_n dX3_parse_58 rfl ?_
      refine g_PA (by assumption) 5 dX3_parse_59 fl_X3_25 (by decide) rfl ?_
      refine g_TO hn 0 dX3_parse_62 fl_X3_60 (by decide) (v := .int (nI c)) (congrArg (fun x => some (Value.int x)) h.1.1.1) ?_
      refine wa_icmp_ge 99 dX3_parse_65 rfl (fun c65 => absurd c65 (nI_ge (by omega) (by omega))) (fun c65 => ?_)
      refine wa_aload_n dX3_parse_68 rfl ?_
      refine c_VI dX3_parse_69 (px_isAtEnd hn h) lk_X3_52 rfl (isO_PA _ _ _) rfl (ltS hn) ?_
      rw [b2i_1 hz]
      refine wa_if_ne 99 dX3_parse_72 rfl (fun c72 => ?_) (fun c72 => absurd c72 (by decide))
      refine wa_iconst (x := 1) dX3_parse_99 (by decide) ?_
      exact wa_ireturn dX3_parse_100 (hQ _ _ _ _ _ (Nat.le_refl _) (by omega) (by omega) (by omega) (RBn.ofr (a := (pos b N t, δ, told)) (if_pos hz0) FRps.rf.n ⟨t, nf, nl, h⟩))
    have hz0 : ¬ tk b N (pos b N t) = 0 := fun z => hz (h.end.mpr ((tk_end t).mp z))
    have hpN := tk_lt hz0
    have eA : pAll b N (f + 1) (pos b N t, δ, told) = pb (pS0 b N (pos b N t, δ, told)) (fun s => pb (pEnd b N s) (pAll b N f)) := by
      refine (if_neg hz0).trans ?_
      rw [pStmt_S0, pb_assoc]
    refine wa_iload_n dX3_parse_57 rfl ?_
    refine wa_aload_n dX3_parse_58 rfl ?_
    refine g_PA (by assumption) 5 dX3_parse_59 fl_X3_25 (by decide) rfl ?_
    refine g_TO hn 0 dX3_parse_62 fl_X3_60 (by decide) (v := .int (nI c)) (congrArg (fun x => some (Value.int x)) h.1.1.1) ?_
    refine wa_icmp_ge 99 dX3_parse_65 rfl (fun c65 => absurd c65 (nI_ge (by omega) (by omega))) (fun c65 => ?_)
    refine wa_aload_n dX3_parse_68 rfl ?_
    refine c_VI dX3_parse_69 (px_isAtEnd hn h) lk_X3_52 rfl (isO_PA _ _ _) rfl (ltS hn) ?_
    rw [b2i_0 hz]
    refine wa_if_ne 99 dX3_parse_72 rfl (fun c72 => absurd rfl c72) (fun c72 => ?_)
    refine wa_aload_n dX3_parse_75 rfl ?_
    by_cases hk : kwf b N (pos b N t) = some 6
    · skip
      by_cases hr6 : rn δ = 6
      · have hx1 : pS0 b N (pos b N t, δ, told) = .inl (5, pos b N t) := pS0_full hk hr6
        refine c_VMI dX3_parse_76 (px_takeStatement_f hn h hk hr6) lk_X3_63 rfl (isO_PA _ _ _) rfl (ltS hn) (fun w1 n1 S1 l1 u1 r1 => ?_)
        obtain ⟨f1, rfl, q1⟩ := RBn.l hx1 r1
        refine wa_if_eq 91 dX3_parse_79 rfl (fun c79 => ?_) (fun c79 => absurd rfl c79)
        refine wa_iconst (x := 0) dX3_parse_91 (by decide) ?_
        exact wa_ireturn dX3_parse_92 (hQ _ _ _ _ _ (by omega) (by omega) (by omega) (by omega) (RBn.ofl (by rw [eA, hx1]; rfl) f1 q1))
      refine c_VMI dX3_parse_76 (px_takeStatement_r hn h hW hk (by omega) hsb) lk_X3_63 rfl (isO_PA _ _ _) rfl (ltS hn) (fun w1 n1 S1 b1 u1 r1 => ?_)
      have hn1 : 269 ≤ n1 := by omega
      cases hx1 : pS0 b N (pos b N t, δ, told) with
      | inl e =>
        obtain ⟨f1, rfl, q1⟩ := RBn.l hx1 r1
        refine wa_if_eq 91 dX3_parse_79 rfl (fun c79 => ?_) (fun c79 => absurd rfl c79)
        refine wa_iconst (x := 0) dX3_parse_91 (by decide) ?_
        exact wa_ireturn dX3_parse_92 (hQ _ _ _ _ _ (by omega) (by omega) (by omega) (by omega) (RBn.ofl (by rw [eA, hx1]; rfl) f1 q1))
      | inr a1 =>
        obtain ⟨s1, δ1, m1⟩ := a1
        obtain ⟨f1, rfl, t1, nf1, nl1, e1, l1, h1, g1⟩ := RBn.r hx1 r1
        dsimp only at e1 h1 g1
        subst e1
        have ht1 := h1.tL
        refine wa_if_eq 91 dX3_parse_79 rfl (fun c79 => absurd c79 (by decide)) (fun c79 => ?_)
        refine wa_aload_n dX3_parse_82 rfl ?_
        refine wa_bipush (x := 59) dX3_parse_83 (by decide) ?_
        refine c_VQI dX3_parse_85 (px_takeSymbol hn1 h1 59) lk_X3_66 rfl (isO_PA _ _ _) rfl (ltS hn1) (fun w2 S2 r2 => ?_)
        cases hx2 : pSym b N 59 (pos b N t1) with
        | inl e =>
          obtain ⟨f2, rfl, q2⟩ := RB.l hx2 r2
          refine wa_if_ne 93 dX3_parse_88 rfl (fun c88 => absurd rfl c88) (fun c88 => ?_)
          refine wa_iconst (x := 0) dX3_parse_91 (by decide) ?_
          exact wa_ireturn dX3_parse_92 (hQ _ _ _ _ _ (by omega) (by omega) (by omega) (by omega) (RBn.ofl (by rw [eA, hx1]; show pb (pb (pSym b N 59 (pos b N t1)) _) _ = _; rw [hx2]; rfl) (f1.tr (f2.n (n := n)) (Nat.le_refl _)) q2))
        | inr a2 =>
          obtain ⟨f2, rfl, (e2 : a2 = pos b N (t1 + 1)), h2⟩ := RB.r hx2 r2
          subst e2
          have hp1 := pos_mono (b := b) (N := N) (s := t) t1 l1
          have hp2 := pos_s (b := b) (N := N) (t := t1) (tk_lt (by rw [(isS_iff.mp (Classical.byContradiction (fun z => by rw [show pSym b N 59 (pos b N t1) = .inl (1, pos b N t1) from if_neg z] at hx2; cases hx2))).1]; decide))
          refine wa_if_ne 93 dX3_parse_88 rfl (fun c88 => ?_) (fun c88 => absurd c88 (by decide))
          refine wa_iinc (y := 1) dX3_parse_93 rfl (by decide) rfl ?_
          rw [nI_1 i]
          refine wa_goto 57 dX3_parse_96 rfl ?_
          exact ih (t1 + 1) (i + 1) n1 _ _ m1 S2 δ1 _ _ hn1 (by omega) (by rw [f2.n (n := n) |>.sb, f1.sb]; omega) (by omega) (by omega) h2 (by omega) (by omega) (fun v n' k' z' S' b1 b2 b3 b4 r => hQ v n' k' z' S' (by omega) (by omega) b3 b4 ((r.fr (f1.tr (f2.n (n := n)) (Nat.le_refl _)) (by omega)).eq (by rw [eA, hx1]; show _ = pb (pb (pSym b N 59 (pos b N t1)) _) _; rw [hx2]; rfl)))
    · skip
      refine c_VQI dX3_parse_76 (px_takeStatement_o hn h hk) lk_X3_63 rfl (isO_PA _ _ _) rfl (ltS hn) (fun w1 S1 r1 => ?_)
      cases hx1 : pS0 b N (pos b N t, δ, told) with
      | inl e =>
        obtain ⟨f1, rfl, q1⟩ := RB.l hx1 r1
        refine wa_if_eq 91 dX3_parse_79 rfl (fun c79 => ?_) (fun c79 => absurd rfl c79)
        refine wa_iconst (x := 0) dX3_parse_91 (by decide) ?_
        exact wa_ireturn dX3_parse_92 (hQ _ _ _ _ _ (by omega) (by omega) (by omega) (by omega) (RBn.ofl (by rw [eA, hx1]; rfl) f1.n q1))
      | inr a1 =>
        have g1 := rk_S0 (fun z => hk ((kwf_wd (by decide)).mpr z)) h.gg.1.pn20 hx1
        obtain ⟨s1, δ1, m1⟩ := a1
        obtain ⟨f1, rfl, t1, e1, l1, h1⟩ := RB.r hx1 r1
        dsimp only at e1 h1 g1
        subst e1
        have ht1 := h1.tL
        refine wa_if_eq 91 dX3_parse_79 rfl (fun c79 => absurd c79 (by decide)) (fun c79 => ?_)
        refine wa_aload_n dX3_parse_82 rfl ?_
        refine wa_bipush (x := 59) dX3_parse_83 (by decide) ?_
        refine c_VQI dX3_parse_85 (px_takeSymbol hn h1 59) lk_X3_66 rfl (isO_PA _ _ _) rfl (ltS hn) (fun w2 S2 r2 => ?_)
        cases hx2 : pSym b N 59 (pos b N t1) with
        | inl e =>
          obtain ⟨f2, rfl, q2⟩ := RB.l hx2 r2
          refine wa_if_ne 93 dX3_parse_88 rfl (fun c88 => absurd rfl c88) (fun c88 => ?_)
          refine wa_iconst (x := 0) dX3_parse_91 (by decide) ?_
          exact wa_ireturn dX3_parse_92 (hQ _ _ _ _ _ (by omega) (by omega) (by omega) (by omega) (RBn.ofl (by rw [eA, hx1]; show pb (pb (pSym b N 59 (pos b N t1)) _) _ = _; rw [hx2]; rfl) ((f1.n (n := n)).tr (f2.n (n := n)) (Nat.le_refl _)) q2))
        | inr a2 =>
          obtain ⟨f2, rfl, (e2 : a2 = pos b N (t1 + 1)), h2⟩ := RB.r hx2 r2
          subst e2
          have hp1 := pos_mono (b := b) (N := N) (s := t) t1 l1
          have hp2 := pos_s (b := b) (N := N) (t := t1) (tk_lt (by rw [(isS_iff.mp (Classical.byContradiction (fun z => by rw [show pSym b N 59 (pos b N t1) = .inl (1, pos b N t1) from if_neg z] at hx2; cases hx2))).1]; decide))
          refine wa_if_ne 93 dX3_parse_88 rfl (fun c88 => ?_) (fun c88 => absurd c88 (by decide))
          refine wa_iinc (y := 1) dX3_parse_93 rfl (by decide) rfl ?_
          rw [nI_1 i]
          refine wa_goto 57 dX3_parse_96 rfl ?_
          exact ih (t1 + 1) (i + 1) n _ _ m1 S2 δ1 _ _ hn (by omega) (by rw [f2.n (n := n) |>.sb, (f1.n (n := n)).sb]; omega) (by omega) (by omega) h2 (by omega) (by omega) (fun v n' k' z' S' b1 b2 b3 b4 r => hQ v n' k' z' S' (by omega) (by omega) b3 b4 ((r.fr ((f1.n (n := n)).tr (f2.n (n := n)) (Nat.le_refl _)) (by omega)).eq (by rw [eA, hx1]; show _ = pb (pb (pSym b N 59 (pos b N t1)) _) _; rw [hx2]; rfl)))
/-- what a load may have changed beside the draft, the tokens, the parser's own numbers -/
def FRl (n : Nat) (S0 S : SS) : Prop := (S.2.2.1 = S0.2.2.1 ∧ S.2.2.2.1 = S0.2.2.2.1 ∧ sbr S = sbr S0 ∧ S.2.2.2.2.2.2.2 = S0.2.2.2.2.2.2.2 ∧ ∀ k, k < n → ltc S k = ltc S0 k) ∧ (∀ a, ¬ a = 1 → (a < 3 ∨ 31 ≤ a) → S.1 a = S0.1 a) ∧ (∀ a, (a < 3 ∨ 26 ≤ a) → S.2.1 a = S0.2.1 a) ∧ ∀ j, (j < 3 ∨ j = 5 ∨ 8 < j) → S.1 1 j = S0.1 1 j
theorem FRn.l {n : Nat} {S0 S : SS} (h : FRn n S0 S) : FRl n S0 S := by
  have h1 := h.lt
  have h2 := h.sb
  obtain ⟨⟨f, a, -⟩, b, c, d⟩ := h
  exact ⟨⟨by rw [a]; rfl, by rw [a]; rfl, h2, by rw [a]; rfl, h1⟩, fun x y z => b x y (by omega), c, d⟩
theorem FRl.tr {n : Nat} {S0 S1 S2 : SS} (h1 : FRl n S0 S1) (h2 : FRl n S1 S2) : FRl n S0 S2 :=
  ⟨⟨h2.1.1.trans h1.1.1, h2.1.2.1.trans h1.1.2.1, h2.1.2.2.1.trans h1.1.2.2.1, h2.1.2.2.2.1.trans h1.1.2.2.2.1, fun k hk => (h2.1.2.2.2.2 k hk).trans (h1.1.2.2.2.2 k hk)⟩, fun a x y => (h2.2.1 a x y).trans (h1.2.1 a x y), fun a x => (h2.2.2.1 a x).trans (h1.2.2.1 a x), fun j x => (h2.2.2.2 j x).trans (h1.2.2.2 j x)⟩
theorem FRk.l {n : Nat} {S0 S : SS} (h : FRk S0 S) : FRl n S0 S :=
  ⟨⟨h.2.1, h.2.2.1, by unfold sbr; rw [h.2.2.2.1], by rw [h.2.2.2.1], fun k _ => by unfold ltc; rw [h.2.2.2.1]⟩, fun a _ y => h.2.2.2.2 a (by omega), fun a _ => by rw [h.1], fun j _ => by rw [h.2.2.2.2 1 (by omega)]⟩
theorem plain_hm : ∀ j, j < 12 → ¬ j = 10 → emp j = plain (hm j) := by decide
theorem rn_plain : rn plain = 0 := by decide
theorem pn_plain : pn plain = 0 := by decide
theorem GH_plain : GH plain := by
  unfold GH
  decide
theorem GG_plain : GG 0 plain := by
  refine ⟨⟨by decide, by decide, by decide, fun k hk => absurd hk (by rw [pn_plain]; omega), fun i => ⟨fun t ht => if_neg (by omega), fun t => Or.inl ?_⟩⟩, GH_plain, fun k hk => absurd hk (by rw [pn_plain]; omega), fun k hk => absurd hk (by rw [pn_plain]; omega), fun i hi => absurd hi (by rw [rn_plain]; omega)⟩
  unfold pg
  by_cases ht : t < 48
  · rw [if_pos ht]
    unfold of plain
    rw [if_neg (by omega), if_neg (by omega), if_neg (by omega), if_neg (by omega), if_neg (by omega), if_neg (by omega), if_neg (by omega), if_neg (by omega)]
  · exact if_neg ht
theorem ZR_plain : ZR plain := fun j hj => by
  unfold plain
  rw [if_neg (by omega), if_neg (by omega), if_neg (by omega), if_neg (by omega), if_neg (by omega), if_neg (by omega), if_neg (by omega), if_neg (by omega)]
def RBl {α : Type} (n : Nat) (S0 : SS) (x : PR α) (P : α → Nat → SS → Prop) (v : Int32) (n' : Nat) (S' : SS) : Prop := FRl n S0 S' ∧ match x with
  | .inl e => v = 0 ∧ ERR e S'
  | .inr a => v = 1 ∧ P a n' S'
theorem RBn.lb {α : Type} {n n' : Nat} {S0 S1 S' : SS} {x : PR α} {P : α → Nat → SS → Prop} {v : Int32} (h : RBn n S1 x P v n' S') (f : FRl n S0 S1) : RBl n S0 x P v n' S' := ⟨f.tr h.1.l, h.2⟩
theorem RBl.l {α : Type} {n n' : Nat} {S0 S' : SS} {x : PR α} {P : α → Nat → SS → Prop} {v : Int32} {e : Nat × Nat} (hx : x = .inl e) (h : RBl n S0 x P v n' S') : FRl n S0 S' ∧ v = 0 ∧ ERR e S' := by
  subst hx
  exact h
theorem RBl.r {α : Type} {n n' : Nat} {S0 S' : SS} {x : PR α} {P : α → Nat → SS → Prop} {v : Int32} {a : α} (hx : x = .inr a) (h : RBl n S0 x P v n' S') : FRl n S0 S' ∧ v = 1 ∧ P a n' S' := by
  subst hx
  exact h
theorem CS.start {b : Nat → Int32} {N c n : Nat} {S S' : SS} {nf : Nat → Nat → Int32} {nl : Nat → Nat} (hnb : n ≤ ab_CB) (hN : N ≤ 500) (eb : S.1 2 = b) (h : TOK b N S c) (h6 : S.1 1 6 = 0) (h8 : S.1 1 8 = 0) (h3 : S.1 1 3 = 0) (h4 : S.1 1 4 = -1) (q : PUTS S S' 3 12 emp) : CS b N c n S' 0 0 plain nf nl := by
  obtain ⟨q1, q2, q3⟩ := q
  have z : rn plain = 0 := by decide
  have z2 : pn plain = 0 := by decide
  refine ⟨h.fr (fun a x y => q2 a (by omega)) (by rw [q1]), ⟨by have := h.1.2.1.1; omega, by rw [q2 1 (by decide)]; exact h6⟩, ⟨by decide, by rw [q2 1 (by decide)]; exact h8⟩, by rw [q2 1 (by decide)]; exact ⟨h3, h4⟩, ⟨⟨isH_draft, by omega, by omega⟩, fun j hj hj2 => (q3 j hj hj2).trans (plain_hm j hj hj2), fun k hk => absurd hk (by omega), fun i hi => absurd hi (by omega)⟩, ⟨GG_plain, ZR_plain⟩, fun i hi => absurd hi (by omega), ⟨hnb, fun i hi => absurd hi (by omega)⟩, by rw [q2 2 (by decide)]; exact eb, hN⟩
theorem RBl.eq {α : Type} {n n' : Nat} {S0 S' : SS} {x y : PR α} {P : α → Nat → SS → Prop} {v : Int32} (h : RBl n S0 x P v n' S') (e : x = y) : RBl n S0 y P v n' S' := e ▸ h
theorem px_parse {b : Nat → Int32} {N n : Nat} {S : SS} (hn : 269 ≤ n) (hW : WHT) (hnb : n + 19 ≤ ab_CB) (hsb : sbr S < n) (hN : N ≤ 500) (eb : S.1 2 = b) (h1 : S.1 1 1 = nI N) : AM yX3_parse cX3_parse 2 (some .boolean) [] 9 18 96 [.ref 1] n (Hp S) (PMe n 18 (fun v n' S' => ∃ c, RBl n S (pLoad b N) (PL b N c) v n' S')) := by
  intro has
  change WA RX3 cX3_parse 2 [] _ _ 0 0 0 [some (.ref 1), none] [] n _
  refine wa_aload_n dX3_parse_0 rfl ?_
  refine g_PA (by assumption) 5 dX3_parse_1 fl_X3_25 (by decide) rfl ?_
  refine wa_aload_n dX3_parse_4 rfl ?_
  refine g_PA (by assumption) 0 dX3_parse_5 fl_X3_9 (by decide) rfl ?_
  refine wa_aload_n dX3_parse_8 rfl ?_
  refine g_PA hn 1 dX3_parse_9 fl_X3_29 (by decide) (v := .int (nI N)) (congrArg (fun x => some (Value.int x)) h1) ?_
  refine c_VQV dX3_parse_12 (tk_read hn hN eb) lk_X3_33 rfl (isO_TO _ _ _) rfl (ltS hn) (fun S1 r1 => ?_)
  obtain ⟨f1, c, h0⟩ := r1
  have hH := isH_draft
  refine wa_aload_n dX3_parse_15 rfl ?_
  refine wa_iconst (x := 0) dX3_parse_16 (by decide) ?_
  refine p_PA (by assumption) 6 dX3_parse_17 fl_X3_37 (by decide) rfl rfl rfl rfl (fun _ _ _ => rfl) (Nat.le_of_ble_eq_true rfl) ?_
  refine wa_aload_n dX3_parse_20 rfl ?_
  refine wa_iconst (x := 0) dX3_parse_21 (by decide) ?_
  refine p_PA (by assumption) 8 dX3_parse_22 fl_X3_40 (by decide) rfl rfl rfl rfl (fun _ _ _ => rfl) (Nat.le_of_ble_eq_true rfl) ?_
  refine wa_aload_n dX3_parse_25 rfl ?_
  refine wa_iconst (x := 0) dX3_parse_26 (by decide) ?_
  refine p_PA (by assumption) 3 dX3_parse_27 fl_X3_43 (by decide) rfl rfl rfl rfl (fun _ _ _ => rfl) (Nat.le_of_ble_eq_true rfl) ?_
  refine wa_aload_n dX3_parse_30 rfl ?_
  refine wa_iconst (x := (-1)) dX3_parse_31 (by decide) ?_
  refine p_PA (by assumption) 4 dX3_parse_32 fl_X3_46 (by decide) rfl rfl rfl rfl (fun _ _ _ => rfl) (Nat.le_of_ble_eq_true rfl) ?_
  refine wa_aload_n dX3_parse_35 rfl ?_
  refine g_PA (by assumption) 2 dX3_parse_36 fl_X3_18 (by decide) rfl ?_
  refine c_VQV dX3_parse_39 (hh_empty hn isH_draft) lk_X3_49 rfl (isH.HO isH_draft _ _ _) rfl (lt_HO isH_draft hn) (fun S2 r2 => ?_)
  have k0 : ∀ (T : SS), T.2 = S1.2 → (∀ a, ¬ a = 1 → T.1 a = S1.1 a) → TOK b N T c := fun T e1 e2 => h0.fr (fun a x y => e2 a (by omega)) (by rw [e1])
  have k2 := CS.start (n := n) (S := ss (ss (ss (ss S1 1 6 0) 1 8 0) 1 3 0) 1 4 (-1)) (nf := fun _ _ => 0) (nl := fun _ => 0) (by omega) hN (by rw [ss_o _ _ _ (by decide), ss_o _ _ _ (by decide), ss_o _ _ _ (by decide), ss_o _ _ _ (by decide), f1.2.2.2.2 2 (by omega)]; exact eb) (k0 _ rfl (fun a x => by rw [ss_o _ _ _ x, ss_o _ _ _ x, ss_o _ _ _ x, ss_o _ _ _ x])) (by rw [ss_j _ _ (by decide), ss_j _ _ (by decide), ss_j _ _ (by decide), ss_e]) (by rw [ss_j _ _ (by decide), ss_j _ _ (by decide), ss_e]) (by rw [ss_j _ _ (by decide), ss_e]) (ss_e _ _ _ _) r2
  have fl : FRl n S S2 := (f1.l (n := n)).tr ⟨⟨by rw [r2.1]; rfl, by rw [r2.1]; rfl, by unfold sbr; rw [r2.1]; rfl, by rw [r2.1]; rfl, fun k _ => by unfold ltc; rw [r2.1]; rfl⟩, fun a x y => by rw [r2.2.1 a (by omega), ss_o _ _ _ x, ss_o _ _ _ x, ss_o _ _ _ x, ss_o _ _ _ x], fun a x => by rw [r2.1]; rfl, fun j x => by rw [r2.2.1 1 (by decide), ss_j _ _ (by omega), ss_j _ _ (by omega), ss_j _ _ (by omega), ss_j _ _ (by omega)]⟩
  have hsb2 : sbr S2 < n := by rw [fl.1.2.2.1]; exact hsb
  by_cases hz : 0 + 1 = c
  · have hz0 : tk b N (pos b N 0) = 0 := (tk_end 0).mpr (k2.end.mp hz)
    refine wa_aload_n dX3_parse_42 rfl ?_
    refine c_VI dX3_parse_43 (px_isAtEnd hn k2) lk_X3_52 rfl (isO_PA _ _ _) rfl (ltS hn) ?_
    rw [b2i_1 hz]
    refine wa_if_eq 55 dX3_parse_46 rfl (fun c46 => absurd c46 (by decide)) (fun c46 => ?_)
    refine wa_aload_n dX3_parse_49 rfl ?_
    refine wa_iconst (x := 1) dX3_parse_50 (by decide) ?_
    refine c_VI dX3_parse_51 (px_fail hn k2 1) lk_X3_56 rfl (isO_PA _ _ _) rfl (ltS hn) ?_
    exact wa_ireturn dX3_parse_54 ⟨by decide, by decide, ⟨_, rfl, rfl⟩, _, _, rfl, rfl, Nat.le_refl _, Nat.le_add_right _ _, ⟨c, (RBn.ofl (if_pos hz0) (fail_fr FRps.rf _ _).n (fail_err _ _ _)).lb fl⟩⟩
  have hz0 : ¬ tk b N (pos b N 0) = 0 := fun z => hz (k2.end.mpr ((tk_end 0).mp z))
  refine wa_aload_n dX3_parse_42 rfl ?_
  refine c_VI dX3_parse_43 (px_isAtEnd hn k2) lk_X3_52 rfl (isO_PA _ _ _) rfl (ltS hn) ?_
  rw [b2i_0 hz]
  refine wa_if_eq 55 dX3_parse_46 rfl (fun c46 => ?_) (fun c46 => absurd rfl c46)
  refine wa_iconst (x := 0) dX3_parse_55 (by decide) ?_
  refine wa_istore_n dX3_parse_56 rfl ?_
  have zr := rn_plain
  exact lp_parse hW (N + 1) 0 0 n _ _ 0 S2 plain _ _ hn (by omega) hsb2 (by decide) (by decide) k2 (Nat.le_refl _) (by omega) (fun v n' k' z' S' b1 b2 b3 b4 r => ⟨by omega, by omega, ⟨_, rfl, r.nar⟩, _, _, rfl, rfl, b1, by omega, ⟨c, (r.lb fl).eq (show _ = pLoad b N from (if_neg hz0).symm)⟩⟩)

