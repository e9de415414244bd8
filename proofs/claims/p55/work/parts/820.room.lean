/-! ValveRoom$Parser: takeNewRoom, as far as wordHere allows. Written by program (wip/whole/gen/m820.py) but for the heads. -/
/-- what may have changed behind a statement that makes cells from n on -/
def FRn (n : Nat) (S0 S : SS) : Prop := (∃ f, S.2.2 = (sl S0 f).2.2 ∧ ∀ k, k < n → f k = ltc S0 k) ∧ (∀ a, ¬ a = 1 → (a < 3 ∨ 26 ≤ a) → S.1 a = S0.1 a) ∧ (∀ a, (a < 3 ∨ 26 ≤ a) → S.2.1 a = S0.2.1 a) ∧ ∀ j, (j < 3 ∨ j = 5 ∨ 8 < j) → S.1 1 j = S0.1 1 j
theorem FRps.n {n : Nat} {S0 S : SS} (h : FRps S0 S) : FRn n S0 S := ⟨⟨ltc S0, h.1, fun _ _ => rfl⟩, h.2⟩
theorem FRn.lt {n : Nat} {S0 S : SS} (h : FRn n S0 S) : ∀ k, k < n → ltc S k = ltc S0 k := by
  obtain ⟨⟨f, h1, h2⟩, -⟩ := h
  intro k hk
  unfold ltc
  rw [h1]
  exact h2 k hk
theorem FRn.sb {n : Nat} {S0 S : SS} (h : FRn n S0 S) : sbr S = sbr S0 := by
  obtain ⟨⟨f, h1, h2⟩, -⟩ := h
  unfold sbr
  rw [h1]
  rfl
theorem FRn.tr {n n' : Nat} {S0 S1 S2 : SS} (h1 : FRn n S0 S1) (h2 : FRn n' S1 S2) (hn : n ≤ n') : FRn n S0 S2 := by
  have l1 := h1.lt
  obtain ⟨⟨f, a1, a2⟩, b1, c1, d1⟩ := h1
  obtain ⟨⟨f', a1', a2'⟩, b2, c2, d2⟩ := h2
  refine ⟨⟨f', ?_, fun k hk => (a2' k (by omega)).trans (l1 k hk)⟩, fun a x y => (b2 a x y).trans (b1 a x y), fun a x => (c2 a x).trans (c1 a x), fun j x => (d2 j x).trans (d1 j x)⟩
  rw [a1']
  unfold sl
  dsimp only
  rw [a1]
  rfl
/-- false and the error, or true and what was taken; cells may have been made -/
def RBn {α : Type} (n : Nat) (S0 : SS) (x : PR α) (P : α → Nat → SS → Prop) (v : Int32) (n' : Nat) (S' : SS) : Prop := FRn n S0 S' ∧ match x with
  | .inl e => v = 0 ∧ ERR e S'
  | .inr a => v = 1 ∧ P a n' S'
theorem RBn.l {α : Type} {n n' : Nat} {S0 S' : SS} {x : PR α} {P : α → Nat → SS → Prop} {v : Int32} {e : Nat × Nat} (hx : x = .inl e) (h : RBn n S0 x P v n' S') : FRn n S0 S' ∧ v = 0 ∧ ERR e S' := by
  subst hx
  exact h
theorem RBn.r {α : Type} {n n' : Nat} {S0 S' : SS} {x : PR α} {P : α → Nat → SS → Prop} {v : Int32} {a : α} (hx : x = .inr a) (h : RBn n S0 x P v n' S') : FRn n S0 S' ∧ v = 1 ∧ P a n' S' := by
  subst hx
  exact h
theorem RBn.ofl {α : Type} {n n' : Nat} {S0 S' : SS} {x : PR α} {P : α → Nat → SS → Prop} {e : Nat × Nat} (hx : x = .inl e) (h : FRn n S0 S') (he : ERR e S') : RBn n S0 x P 0 n' S' := by
  subst hx
  exact ⟨h, rfl, he⟩
theorem RBn.ofr {α : Type} {n n' : Nat} {S0 S' : SS} {x : PR α} {P : α → Nat → SS → Prop} {a : α} (hx : x = .inr a) (h : FRn n S0 S') (ha : P a n' S') : RBn n S0 x P 1 n' S' := by
  subst hx
  exact ⟨h, rfl, ha⟩
/-- at most m cells made -/
abbrev PMe (n m : Nat) (T : Int32 → Nat → SS → Prop) : ab_R → Nat → ab_H → Prop := fun r n' h' => ∃ v S', r = .inl (some (.int v)) ∧ h' = Hp S' ∧ n ≤ n' ∧ n' ≤ n + m ∧ T v n' S'
/-- what wordHere leaves: a String and its bytes -/
def WHP (b : Nat → Int32) (p l n : Nat) (S : SS) : ab_R → Nat → ab_H → Prop := fun r n' h' => r = .inl (some (.ref (n + 1))) ∧ n' = n + 3 ∧ ∃ f tl, h' = Hp (sl S f) ∧ (∀ k, k < n → f k = ltc S k) ∧ f (n + 1) = .inr (6, .ref (n + 2) :: .int 0 :: tl) ∧ f (n + 2) = .inl (1, l, .inl (fun j => if j < l then b (p + j) else 0))
def WHT : Prop := ∀ {b : Nat → Int32} {N c n : Nat} {S : SS} {t told : Nat} {δ : Nat → Int32} {nf : Nat → Nat → Int32} {nl : Nat → Nat}, 269 ≤ n → n + 4 ≤ ab_CB → CS b N c n S t told δ nf nl → isNm b N (pos b N t) = true → AM yX3_wordHere cX3_wordHere 3 (some (.object "java/lang/String")) [] 5 3 16 [.ref 1] n (Hp S) (WHP b (pos b N t) (te b N (pos b N t) - pos b N t) n S)
theorem sl_f {S : SS} {f : Nat → va_E} {n : Nat} (hf : ∀ k, k < n → f k = ltc S k) : FRn n S (sl S f) := ⟨⟨f, rfl, hf⟩, fun _ _ _ => rfl, fun _ _ => rfl, fun _ _ => rfl⟩
theorem fr_new {S S' : SS} {n r w : Nat} (h : NEWR S S' (3 + 5 + 3 * r) w) (hr : r < 6) : FRn n S (ss S' 3 9 (nI (r + 1))) := by
  obtain ⟨q1, q2, q3, q4, -⟩ := h
  refine ⟨⟨ltc S, q1, fun _ _ => rfl⟩, fun a h1 h2 => ?_, fun a h1 => q3 a (by omega), fun j hj => ?_⟩
  · exact (ss_o S' _ _ (by omega)).trans (q4 a (by omega) (by omega))
  · exact congrFun ((ss_o S' _ _ (by omega)).trans (q4 1 (by omega) (by omega))) j
theorem nmo_rng {f : Nat → Int32} {p k : Nat} (hk : k ≤ 6) (h0 : 0 < k) (h : LET f p k) : 0 < (nmo f p k).toInt ∧ (nmo f p k).toInt < 27 ^ 6 := by
  obtain ⟨a1, a2⟩ := nN_lt k h
  have a3 := a2 h0
  have h6 : 27 ^ k ≤ 27 ^ 6 := Nat.pow_le_pow_right (by decide) hk
  have h1 : 0 < 27 ^ (k - 1) := Nat.pow_pos (by decide)
  have e6 : (27 : Nat) ^ 6 = 387420489 := by decide
  rw [nmo_nN k hk h, nI_toInt (by omega)]
  have : (27 : Int) ^ 6 = 387420489 := by decide
  omega
theorem px_takeNewRoom {b : Nat → Int32} {N c n : Nat} {S : SS} {t told : Nat} {δ : Nat → Int32} {nf : Nat → Nat → Int32} {nl : Nat → Nat} (hn : 269 ≤ n) (h : CS b N c n S t told δ nf nl) (hW : WHT) (hk0 : ¬ tk b N (pos b N t) = 0) (hnb : n + 4 ≤ ab_CB) (hsb : sbr S < n) : AM yX3_takeNewRoom cX3_takeNewRoom 1 (some .boolean) [] 6 3 16 [.ref 1] n (Hp S) (PMe n 3 (RBn n S (pRoom1 b N (pos b N t, δ, told)) (fun a n' S' => ∃ t0 pw ls v bt nf' nl', a.2 = pos b N (t + 1 + 1) ∧ (0 < a.1.toInt ∧ a.1.toInt < 27 ^ 6) ∧ CSg TT b N c n' S' (t + 1 + 1) told (addR δ a.1 t0 pw ls v bt) nf' nl'))) := by
  intro has
  change WA RX3 cX3_takeNewRoom 1 [] _ _ 0 0 0 [some (.ref 1)] [] n _
  have ht := h.tL
  have hc := h.cL
  have ht1 := h.nend hk0
  have h6 := h.gg.1.rn6
  have hH := isH_draft
  by_cases hp : rn δ = 6
  · skip
    refine wa_aload_n dX3_takeNewRoom_0 rfl ?_
    refine g_PA (by assumption) 2 dX3_takeNewRoom_1 fl_X3_18 (by decide) rfl ?_
    refine H_hd h.hh hn 9 dX3_takeNewRoom_4 fl_X3_140 (by decide) (by decide) (fun _ _ _ => rfl) ?_
    rw [show δ (hm 9) = nI (rn δ) from h.gg.1.e0]
    refine wa_bipush (x := 6) dX3_takeNewRoom_7 (by decide) ?_
    refine wa_icmp_lt 18 dX3_takeNewRoom_9 rfl (fun c9 => absurd c9 (by rw [hp]; decide)) (fun c9 => ?_)
    refine wa_aload_n dX3_takeNewRoom_12 rfl ?_
    refine wa_iconst (x := 5) dX3_takeNewRoom_13 (by decide) ?_
    refine c_VI dX3_takeNewRoom_14 (px_fail (S := S) hn h 5) lk_X3_56 rfl (isO_PA _ _ _) rfl (ltS hn) ?_
    exact wa_ireturn dX3_takeNewRoom_17 ⟨by decide, by decide, ⟨_, rfl, rfl⟩, _, _, rfl, rfl, Nat.le_refl _, Nat.le_add_right _ _, RBn.ofl (if_pos hp) (fail_fr FRps.rf _ _).n (fail_err _ _ _)⟩
  refine wa_aload_n dX3_takeNewRoom_0 rfl ?_
  refine g_PA (by assumption) 2 dX3_takeNewRoom_1 fl_X3_18 (by decide) rfl ?_
  refine H_hd h.hh hn 9 dX3_takeNewRoom_4 fl_X3_140 (by decide) (by decide) (fun _ _ _ => rfl) ?_
  rw [show δ (hm 9) = nI (rn δ) from h.gg.1.e0]
  refine wa_bipush (x := 6) dX3_takeNewRoom_7 (by decide) ?_
  refine wa_icmp_lt 18 dX3_takeNewRoom_9 rfl (fun c9 => ?_) (fun c9 => absurd (show nI (rn δ) < nI 6 from nI_lt (by omega) (by decide)) c9)
  refine wa_aload_n dX3_takeNewRoom_18 rfl ?_
  refine c_VQV dX3_takeNewRoom_19 (px_pass hn h) lk_X3_90 rfl (isO_PA _ _ _) rfl (ltS hn) (fun T0 p0 => ?_)
  obtain ⟨p0, t0, ⟨-, p0b⟩, k0⟩ := p0
  obtain rfl := p0b ht1
  by_cases hs : isNm b N (pos b N (t + 1)) = true
  · have hk2 : ¬ tk b N (pos b N (t + 1)) = 0 := by rw [(isNm_iff.mp hs).1]; decide
    obtain ⟨i1, i2, -⟩ := isNm_iff.mp hs
    obtain ⟨hL, hl0⟩ := let_tok i1
    have ht2 := k0.nend hk2
    by_cases e : rnm δ (nmo b (pos b N (t + 1)) (te b N (pos b N (t + 1)) - pos b N (t + 1))) = -1
    · skip
      refine wa_aload_n dX3_takeNewRoom_22 rfl ?_
      refine c_VI dX3_takeNewRoom_23 (px_isName hn k0) lk_X3_184 rfl (isO_PA _ _ _) rfl (ltS hn) ?_
      rw [b2i_1 hs]
      refine wa_if_ne 35 dX3_takeNewRoom_26 rfl (fun c26 => ?_) (fun c26 => absurd c26 (by decide))
      refine wa_aload_n dX3_takeNewRoom_35 rfl ?_
      refine g_PA (by assumption) 2 dX3_takeNewRoom_36 fl_X3_18 (by decide) rfl ?_
      refine wa_aload_n dX3_takeNewRoom_39 rfl ?_
      refine g_PA (by assumption) 0 dX3_takeNewRoom_40 fl_X3_9 (by decide) rfl ?_
      refine wa_aload_n dX3_takeNewRoom_43 rfl ?_
      refine g_PA (by assumption) 5 dX3_takeNewRoom_44 fl_X3_25 (by decide) rfl ?_
      refine g_TO (by assumption) 2 dX3_takeNewRoom_47 fl_X3_70 (by decide) rfl ?_
      refine wa_aload_n dX3_takeNewRoom_50 rfl ?_
      refine g_PA hn 6 dX3_takeNewRoom_51 fl_X3_37 (by decide) (v := .int (nI (t + 1))) (congrArg (fun x => some (Value.int x)) k0.a) ?_
      refine s_iald (j := t + 1) isA_starts dX3_takeNewRoom_54 (ltS hn) (ix_nI (by omega)) (by omega) ?_
      rw [k0.st]
      refine wa_aload_n dX3_takeNewRoom_55 rfl ?_
      refine g_PA (by assumption) 5 dX3_takeNewRoom_56 fl_X3_25 (by decide) rfl ?_
      refine g_TO (by assumption) 3 dX3_takeNewRoom_59 fl_X3_84 (by decide) rfl ?_
      refine wa_aload_n dX3_takeNewRoom_62 rfl ?_
      refine g_PA hn 6 dX3_takeNewRoom_63 fl_X3_37 (by decide) (v := .int (nI (t + 1))) (congrArg (fun x => some (Value.int x)) k0.a) ?_
      refine s_iald (j := t + 1) isA_lengths dX3_takeNewRoom_66 (ltS hn) (ix_nI (by omega)) (by omega) ?_
      rw [k0.ln]
      refine c_VI dX3_takeNewRoom_67 (hh_numberOf (p := pos b N (t + 1)) (l := te b N (pos b N (t + 1)) - pos b N (t + 1)) (L := 500) (f := b) hn k0.hh k0.gg.1.e0 k0.nx.nms (Or.inl (ltS hn)) (hbe_text k0) (by decide) (tok_500 k0)) lk_X3_187 rfl (isH.HO isH_draft _ _ _) rfl (lt_HO isH_draft hn) ?_
      rw [num_rnm k0.nr hs, e]
      refine wa_iconst (x := (-1)) dX3_takeNewRoom_70 (by decide) ?_
      refine wa_icmp_eq 80 dX3_takeNewRoom_71 rfl (fun c71 => ?_) (fun c71 => absurd rfl c71)
      refine wa_aload_n dX3_takeNewRoom_80 rfl ?_
      refine g_PA (by assumption) 2 dX3_takeNewRoom_81 fl_X3_18 (by decide) rfl ?_
      refine g_HO isH_draft hn 10 dX3_takeNewRoom_84 fl_X3_136 (by decide) rfl ?_
      refine wa_aload_n dX3_takeNewRoom_87 rfl ?_
      refine g_PA (by assumption) 2 dX3_takeNewRoom_88 fl_X3_18 (by decide) rfl ?_
      refine H_hd k0.hh hn 9 dX3_takeNewRoom_91 fl_X3_140 (by decide) (by decide) (fun _ _ _ => rfl) ?_
      rw [show δ (hm 9) = nI (rn δ) from k0.gg.1.e0]
      refine L_room isH_draft hn (nI_toInt (by omega)) (by omega) dX3_takeNewRoom_94 ?_
      have hR : isR (3 + 5 + 3 * rn δ) := isH_draft.R (by omega)
      refine wa_aload_n dX3_takeNewRoom_95 rfl ?_
      refine c_VG dX3_takeNewRoom_96 (hW hn (by omega) k0 hs) lk_X3_191 rfl (isO_PA _ _ _) rfl (ltS hn) (fun ro n' h' q _ => ?_) (fun E n' h' q _ => by cases q.1)
      obtain ⟨h1, rfl, f, tl, rfl, hf, hf1, hf2⟩ := q
      cases h1
      have hn3 : 269 ≤ n + 3 := by omega
      refine c_VQV dX3_takeNewRoom_99 (hh_startAs (S := sl T0 f) (w := n + 1) hn3 hR) lk_X3_195 rfl (isR.RO hR _ _ _) rfl (lt_RO hR hn3) (fun S4 r4 => ?_)
      have k4 := k0.newRoom hn (by omega) (by omega) (by rw [p0.n.sb (n := n)]; exact hsb) hf hf1 hf2 ⟨by omega, i2⟩ hL r4
      have e9 : S4.1 3 9 = nI (rn δ) := (congrFun (r4.2.2.2.1 3 (by omega) (by omega)) 9).trans ((k0.hh.n (j := 9) (by decide) (by decide)).trans k0.gg.1.e0)
      refine wa_aload_n dX3_takeNewRoom_102 rfl ?_
      refine g_PA hn3 2 dX3_takeNewRoom_103 fl_X3_18 (by decide) rfl ?_
      refine wa_dup dX3_takeNewRoom_106 rfl ?_
      refine g_HO isH_draft hn3 9 dX3_takeNewRoom_107 fl_X3_140 (by decide) (v := .int (nI (rn δ))) (congrArg (fun x => some (Value.int x)) e9) ?_
      refine wa_iconst (x := 1) dX3_takeNewRoom_110 (by decide) ?_
      refine wa_iadd dX3_takeNewRoom_111 ?_
      rw [nI_1 (rn δ)]
      refine p_HO isH_draft hn3 9 dX3_takeNewRoom_112 fl_X3_140 (by decide) rfl rfl rfl rfl (fun _ _ _ => rfl) (Nat.le_of_ble_eq_true rfl) ?_
      refine wa_aload_n dX3_takeNewRoom_115 rfl ?_
      refine c_VQV dX3_takeNewRoom_116 (px_pass hn3 k4) lk_X3_90 rfl (isO_PA _ _ _) rfl (ltS hn3) (fun T5 p5 => ?_)
      obtain ⟨p5, t5, ⟨-, p5b⟩, k5⟩ := p5
      obtain rfl := p5b ht2
      refine wa_iconst (x := 1) dX3_takeNewRoom_119 (by decide) ?_
      exact wa_ireturn dX3_takeNewRoom_120 ⟨by decide, by decide, ⟨_, rfl, rfl⟩, _, _, rfl, rfl, by omega, by omega, RBn.ofr (a := (nmo b (pos b N (t + 1)) (te b N (pos b N (t + 1)) - pos b N (t + 1)), pos b N (t + 1 + 1))) ((if_neg hp).trans (by show pb (pName b N (pos b N (t + 1))) _ = _; unfold pName; rw [if_pos hs]; exact if_pos e)) ((((p0.n (n := n)).tr (sl_f hf) (Nat.le_refl _)).tr (fr_new (n := n) r4 (by omega)) (Nat.le_refl _)).tr (p5.n (n := n)) (Nat.le_refl _)) ⟨_, _, _, _, _, _, _, rfl, nmo_rng i2 hl0 hL, k5⟩⟩
    · skip
      refine wa_aload_n dX3_takeNewRoom_22 rfl ?_
      refine c_VI dX3_takeNewRoom_23 (px_isName hn k0) lk_X3_184 rfl (isO_PA _ _ _) rfl (ltS hn) ?_
      rw [b2i_1 hs]
      refine wa_if_ne 35 dX3_takeNewRoom_26 rfl (fun c26 => ?_) (fun c26 => absurd c26 (by decide))
      refine wa_aload_n dX3_takeNewRoom_35 rfl ?_
      refine g_PA (by assumption) 2 dX3_takeNewRoom_36 fl_X3_18 (by decide) rfl ?_
      refine wa_aload_n dX3_takeNewRoom_39 rfl ?_
      refine g_PA (by assumption) 0 dX3_takeNewRoom_40 fl_X3_9 (by decide) rfl ?_
      refine wa_aload_n dX3_takeNewRoom_43 rfl ?_
      refine g_PA (by assumption) 5 dX3_takeNewRoom_44 fl_X3_25 (by decide) rfl ?_
      refine g_TO (by assumption) 2 dX3_takeNewRoom_47 fl_X3_70 (by decide) rfl ?_
      refine wa_aload_n dX3_takeNewRoom_50 rfl ?_
      refine g_PA hn 6 dX3_takeNewRoom_51 fl_X3_37 (by decide) (v := .int (nI (t + 1))) (congrArg (fun x => some (Value.int x)) k0.a) ?_
      refine s_iald (j := t + 1) isA_starts dX3_takeNewRoom_54 (ltS hn) (ix_nI (by omega)) (by omega) ?_
      rw [k0.st]
      refine wa_aload_n dX3_takeNewRoom_55 rfl ?_
      refine g_PA (by assumption) 5 dX3_takeNewRoom_56 fl_X3_25 (by decide) rfl ?_
      refine g_TO (by assumption) 3 dX3_takeNewRoom_59 fl_X3_84 (by decide) rfl ?_
      refine wa_aload_n dX3_takeNewRoom_62 rfl ?_
      refine g_PA hn 6 dX3_takeNewRoom_63 fl_X3_37 (by decide) (v := .int (nI (t + 1))) (congrArg (fun x => some (Value.int x)) k0.a) ?_
      refine s_iald (j := t + 1) isA_lengths dX3_takeNewRoom_66 (ltS hn) (ix_nI (by omega)) (by omega) ?_
      rw [k0.ln]
      refine c_VI dX3_takeNewRoom_67 (hh_numberOf (p := pos b N (t + 1)) (l := te b N (pos b N (t + 1)) - pos b N (t + 1)) (L := 500) (f := b) hn k0.hh k0.gg.1.e0 k0.nx.nms (Or.inl (ltS hn)) (hbe_text k0) (by decide) (tok_500 k0)) lk_X3_187 rfl (isH.HO isH_draft _ _ _) rfl (lt_HO isH_draft hn) ?_
      rw [num_rnm k0.nr hs]
      refine wa_iconst (x := (-1)) dX3_takeNewRoom_70 (by decide) ?_
      refine wa_icmp_eq 80 dX3_takeNewRoom_71 rfl (fun c71 => absurd c71 e) (fun c71 => ?_)
      refine wa_aload_n dX3_takeNewRoom_74 rfl ?_
      refine wa_iconst (x := 3) dX3_takeNewRoom_75 (by decide) ?_
      refine c_VI dX3_takeNewRoom_76 (px_fail hn k0 3) lk_X3_56 rfl (isO_PA _ _ _) rfl (ltS hn) ?_
      exact wa_ireturn dX3_takeNewRoom_79 ⟨by decide, by decide, ⟨_, rfl, rfl⟩, _, _, rfl, rfl, Nat.le_refl _, Nat.le_add_right _ _, RBn.ofl ((if_neg hp).trans (by show pb (pName b N (pos b N (t + 1))) _ = _; unfold pName; rw [if_pos hs]; exact if_neg e)) (fail_fr p0 _ _).n (fail_err _ _ _)⟩
  · skip
    refine wa_aload_n dX3_takeNewRoom_22 rfl ?_
    refine c_VI dX3_takeNewRoom_23 (px_isName hn k0) lk_X3_184 rfl (isO_PA _ _ _) rfl (ltS hn) ?_
    rw [b2i_0 hs]
    refine wa_if_ne 35 dX3_takeNewRoom_26 rfl (fun c26 => absurd rfl c26) (fun c26 => ?_)
    refine wa_aload_n dX3_takeNewRoom_29 rfl ?_
    refine wa_iconst (x := 1) dX3_takeNewRoom_30 (by decide) ?_
    refine c_VI dX3_takeNewRoom_31 (px_fail hn k0 1) lk_X3_56 rfl (isO_PA _ _ _) rfl (ltS hn) ?_
    exact wa_ireturn dX3_takeNewRoom_34 ⟨by decide, by decide, ⟨_, rfl, rfl⟩, _, _, rfl, rfl, Nat.le_refl _, Nat.le_add_right _ _, RBn.ofl ((if_neg hp).trans (by show pb (pName b N (pos b N (t + 1))) _ = _; unfold pName; rw [if_neg hs]; rfl)) (fail_fr p0 _ _).n (fail_err _ _ _)⟩

