/-! ValveRoom$Tokens: read, all of it. Written by program (wip/whole/gen/m804.py) but for the heads. -/
/-- which keyword the token at p is -/
def kwf (b : Nat → Int32) (N p : Nat) : Option Nat := if tk b N p = 1 then kwA b p (te b N p - p) else none
def tkk (b : Nat → Int32) (N c t : Nat) : Nat := if t + 1 = c then 4 else kd (b (pos b N t))
/-- c tokens stand, the end among them -/
def TOK0 (b : Nat → Int32) (N : Nat) (S : SS) (c : Nat) : Prop := S.1 26 0 = nI c ∧ (1 ≤ c ∧ c ≤ 501) ∧ pos b N (c - 1) = N ∧ (∀ t, t + 1 < c → pos b N t < N) ∧
  ∀ t, t < c → S.1 27 t = nI (tkk b N c t) ∧ S.1 28 t = nI (pos b N t) ∧ S.1 29 t = nI (te b N (pos b N t) - pos b N t) ∧ (t + 1 < c → S.1 30 t = tv b (pos b N t) (te b N (pos b N t) - pos b N t))
def TOK (b : Nat → Int32) (N : Nat) (S : SS) (c : Nat) : Prop := TOK0 b N S c ∧ ∀ t, t < c → S.2.2.2.2.1 t = kwf b N (pos b N t)
def FRk (S0 S : SS) : Prop := S.2.1 = S0.2.1 ∧ S.2.2.1 = S0.2.2.1 ∧ S.2.2.2.1 = S0.2.2.2.1 ∧ S.2.2.2.2.2 = S0.2.2.2.2.2 ∧ ∀ a, (a < 26 ∨ 31 ≤ a) → S.1 a = S0.1 a
theorem te_N (b : Nat → Int32) (N : Nat) : te b N N = N := if_neg (Nat.lt_irrefl _)
theorem TI.tok {b : Nat → Int32} {N k : Nat} {S0 S : SS} (h : TI b N S0 S N k) (hN : N ≤ 500) : TOK0 b N (bgn S k 4 (nI N)) (k + 1) := by
  have hk := h.k_le (Nat.le_refl _)
  have hp : pos b N k = N := Nat.le_antisymm (VP_pos b N k).1 h.2.2.2.1
  refine ⟨ss_e _ _ _ _, ⟨by omega, by omega⟩, hp, fun t ht => h.2.2.1 t (by omega), fun t ht => ?_⟩
  by_cases c : t = k
  · subst c
    have e4 : tkk b N (t + 1) t = 4 := if_pos rfl
    rw [e4, hp, te_N, Nat.sub_self]
    unfold bgn
    exact ⟨by simp [ss_1]; rfl, by simp [ss_1], by simp [ss_1]; rfl, fun q => by omega⟩
  · have e4 : tkk b N (k + 1) t = kd (b (pos b N t)) := if_neg (by omega)
    have hq := h.2.2.2.2 t (by omega)
    have hl := te_le (b := b) (VP_pos b N t).1
    rw [show min N (te b N (pos b N t)) = te b N (pos b N t) by omega] at hq
    rw [e4, ← hq.1, ← hq.2.1, ← hq.2.2.1, ← hq.2.2.2]
    unfold bgn
    exact ⟨by simp [ss_1, c], by simp [ss_1, c], by simp [ss_1, c], fun _ => by simp [ss_1, c]⟩
theorem FRt.k {S0 S : SS} {k : Nat} {x y : Int32} (h : FRt S0 S) (kf : Nat → Option Nat) : FRk S0 (sk (bgn S k x y) kf) := by
  have e2 : (bgn S k x y).2 = S0.2 := h.1
  refine ⟨congrArg (fun z => z.1) e2, congrArg (fun z => z.2.1) e2, congrArg (fun z => z.2.2.1) e2, congrArg (fun z => z.2.2.2.2) e2, fun a ha => ?_⟩
  show (bgn S k x y).1 a = S0.1 a
  unfold bgn
  rw [ss_o _ _ _ (by omega), ss_o _ _ _ (by omega), ss_o _ _ _ (by omega), ss_o _ _ _ (by omega), ss_o _ _ _ (by omega)]
  exact h.2 a ha
theorem lp_kws {Q : ab_Q} {n N c : Nat} {b : Nat → Int32} {S2 : SS} {x3 : Int32} (hn : 269 ≤ n) (hN : N ≤ 500) (eb : S2.1 2 = b) (h : TOK0 b N S2 c) : ∀ (r j : Nat) (kf : Nat → Option Nat) (l5 : Option Value), j + r = c → (∀ t, t < j → kf t = kwf b N (pos b N t)) → (∀ kf', (∀ t, t < c → kf' t = kwf b N (pos b N t)) → Q (.inl none) 0 0 n (Hp (sk S2 kf'))) → WA RX5 cX5_read 6 [] (ab_rm 6 0 0) Q 0 0 76 [some (.ref 26), some (.ref 2), some (.int (nI N)), some (.int x3), some (.int (nI (j))), l5] [] n (Hp (sk S2 kf)) := by
  have h501 := h.2.1
  intro r
  induction r with
  | zero =>
    intro j kf l5 hk hkf hQ
    have hk2 : j = c := by omega
    refine wa_iload dX5_read_76 rfl ?_
    refine wa_aload_n dX5_read_78 rfl ?_
    refine g_TO hn 0 dX5_read_79 fl_X5_30 (by decide) (v := .int (nI c)) (congrArg (fun x => some (Value.int x)) h.1) ?_
    refine wa_icmp_ge 131 dX5_read_82 rfl (fun c82 => ?_) (fun c82 => absurd (by rw [hk2]; exact Int32.le_refl _) c82)
    exact wa_return dX5_read_131 (hQ kf (by rw [← hk2]; exact hkf))
  | succ r ih =>
    intro j kf l5 hk hkf hQ
    have hq := h.2.2.2.2 j (by omega)
    have hpj := (VP_pos b N j).1
    have htl := te_le (b := b) hpj
    have htg := te_ge b N (pos b N j)
    have hkl : tkk b N c j < 5 := by
      unfold tkk
      split
      · decide
      · have := kd_lt (b (pos b N j)); omega
    have htk0 : tk b N (pos b N j) = 1 ↔ tkk b N c j = 1 := by
      unfold tkk tk
      by_cases e : j + 1 = c
      · have e2 : pos b N j = N := by have := h.2.2.1; rw [show c - 1 = j by omega] at this; exact this
        rw [if_pos e, if_neg (by omega)]
        omega
      · rw [if_neg e, if_pos (h.2.2.2.1 j (by omega))]
    by_cases hk1 : tkk b N c j = 1
    · have htk := htk0.mpr hk1
      refine wa_iload dX5_read_76 rfl ?_
      refine wa_aload_n dX5_read_78 rfl ?_
      refine g_TO hn 0 dX5_read_79 fl_X5_30 (by decide) (v := .int (nI c)) (congrArg (fun x => some (Value.int x)) h.1) ?_
      refine wa_icmp_ge 131 dX5_read_82 rfl (fun c82 => absurd c82 (Int32.not_le.mpr (nI_lt (by omega) (by omega)))) (fun c82 => ?_)
      refine wa_aload_n dX5_read_85 rfl ?_
      refine g_TO (by assumption) 5 dX5_read_86 fl_X5_26 (by decide) rfl ?_
      refine wa_iload dX5_read_89 rfl ?_
      refine wa_aload_n dX5_read_91 rfl ?_
      refine g_TO (by assumption) 1 dX5_read_92 fl_X5_9 (by decide) rfl ?_
      refine wa_iload dX5_read_95 rfl ?_
      refine s_iald (j := j) isA_kinds dX5_read_97 (ltS hn) (ix_nI (by omega)) (by omega) ?_
      rw [show (sk S2 kf).1 27 j = nI (tkk b N c j) from hq.1]
      refine wa_iconst (x := 1) dX5_read_98 (by decide) ?_
      refine wa_icmp_ne 123 dX5_read_99 rfl (fun c99 => absurd (by rw [hk1]; rfl) c99) (fun c99 => ?_)
      refine wa_aload_n dX5_read_102 rfl ?_
      refine wa_aload_n dX5_read_103 rfl ?_
      refine g_TO (by assumption) 2 dX5_read_104 fl_X5_15 (by decide) rfl ?_
      refine wa_iload dX5_read_107 rfl ?_
      refine s_iald (j := j) isA_starts dX5_read_109 (ltS hn) (ix_nI (by omega)) (by omega) ?_
      rw [show (sk S2 kf).1 28 j = nI (pos b N j) from hq.2.1]
      refine wa_aload_n dX5_read_110 rfl ?_
      refine g_TO (by assumption) 3 dX5_read_111 fl_X5_18 (by decide) rfl ?_
      refine wa_iload dX5_read_114 rfl ?_
      refine s_iald (j := j) isA_lengths dX5_read_116 (ltS hn) (ix_nI (by omega)) (by omega) ?_
      rw [show (sk S2 kf).1 29 j = nI (te b N (pos b N j) - pos b N j) from hq.2.2.1]
      refine c_SAh dX5_read_117 (tk_kwAt (b := 2) (L := 500) (f := b) (p := pos b N j) (l := te b N (pos b N j) - pos b N j) hn (Or.inl (ltS hn)) (by rw [← eb]; rfl) (by decide) (by omega)) lk_X5_46 rfl ?_
      cases hw : kwA b (pos b N j) (te b N (pos b N j) - pos b N j) with
      | none =>
        have he1 : kwf b N (pos b N j) = none := by
          unfold kwf
          rw [if_pos htk]
          exact hw
        show WA _ _ _ _ _ _ _ _ _ _ (.null :: _) _ _
        refine wa_goto 124 dX5_read_120 rfl ?_
        refine s_kstN (j := j) (S := sk S2 kf) hn (ix_nI (by omega)) (by omega) dX5_read_124 ?_
        refine wa_iinc (y := 1) dX5_read_125 rfl (by decide) rfl ?_
        refine wa_goto 76 dX5_read_128 rfl ?_
        refine wa_cg (show sk (sk S2 kf) (updO kf j none) = sk S2 (updO kf j none) from rfl) ?_
        rw [nI_1 j]
        exact ih (j + 1) _ _ (by omega) (fun t ht => by
          unfold updO
          by_cases e : t = j
          · rw [if_pos e, e]; exact he1.symm
          · rw [if_neg e]; exact hkf t (by omega)) hQ
      | some y =>
        have hy : y < 18 := by
          have := fo_lt 18 0 y hw
          omega
        have he1 : kwf b N (pos b N j) = some y := by
          unfold kwf
          rw [if_pos htk]
          exact hw
        show WA _ _ _ _ _ _ _ _ _ _ (.ref (ab_CB + (112 + y)) :: _) _ _
        refine wa_goto 124 dX5_read_120 rfl ?_
        refine s_kst (j := j) (y := y) (S := sk S2 kf) hn (ix_nI (by omega)) (by omega) hy dX5_read_124 ?_
        refine wa_iinc (y := 1) dX5_read_125 rfl (by decide) rfl ?_
        refine wa_goto 76 dX5_read_128 rfl ?_
        refine wa_cg (show sk (sk S2 kf) (updO kf j (some y)) = sk S2 (updO kf j (some y)) from rfl) ?_
        rw [nI_1 j]
        exact ih (j + 1) _ _ (by omega) (fun t ht => by
          unfold updO
          by_cases e : t = j
          · rw [if_pos e, e]; exact he1.symm
          · rw [if_neg e]; exact hkf t (by omega)) hQ
    · have he0 : kwf b N (pos b N j) = none := if_neg (fun z => hk1 (htk0.mp z))
      refine wa_iload dX5_read_76 rfl ?_
      refine wa_aload_n dX5_read_78 rfl ?_
      refine g_TO hn 0 dX5_read_79 fl_X5_30 (by decide) (v := .int (nI c)) (congrArg (fun x => some (Value.int x)) h.1) ?_
      refine wa_icmp_ge 131 dX5_read_82 rfl (fun c82 => absurd c82 (Int32.not_le.mpr (nI_lt (by omega) (by omega)))) (fun c82 => ?_)
      refine wa_aload_n dX5_read_85 rfl ?_
      refine g_TO (by assumption) 5 dX5_read_86 fl_X5_26 (by decide) rfl ?_
      refine wa_iload dX5_read_89 rfl ?_
      refine wa_aload_n dX5_read_91 rfl ?_
      refine g_TO (by assumption) 1 dX5_read_92 fl_X5_9 (by decide) rfl ?_
      refine wa_iload dX5_read_95 rfl ?_
      refine s_iald (j := j) isA_kinds dX5_read_97 (ltS hn) (ix_nI (by omega)) (by omega) ?_
      rw [show (sk S2 kf).1 27 j = nI (tkk b N c j) from hq.1]
      refine wa_iconst (x := 1) dX5_read_98 (by decide) ?_
      refine wa_icmp_ne 123 dX5_read_99 rfl (fun c99 => ?_) (fun c99 => absurd (nI_inj (by omega) (by decide) c99) hk1)
      refine wa_null dX5_read_123 ?_
      refine s_kstN (j := j) (S := sk S2 kf) hn (ix_nI (by omega)) (by omega) dX5_read_124 ?_
      refine wa_iinc (y := 1) dX5_read_125 rfl (by decide) rfl ?_
      refine wa_goto 76 dX5_read_128 rfl ?_
      refine wa_cg (show sk (sk S2 kf) (updO kf j none) = sk S2 (updO kf j none) from rfl) ?_
      rw [nI_1 j]
      exact ih (j + 1) _ _ (by omega) (fun t ht => by
        unfold updO
        by_cases e : t = j
        · rw [if_pos e, e]; exact he0.symm
        · rw [if_neg e]; exact hkf t (by omega)) hQ
theorem tk_read {n N : Nat} {b : Nat → Int32} {S : SS} (hn : 269 ≤ n) (hN : N ≤ 500) (eb : S.1 2 = b) : AM yX5_read cX5_read 6 none [] 6 0 0 [.ref 26, .ref 2, .int (nI N)] n (Hp S) (PVe n (fun S' => FRk S S' ∧ ∃ c, TOK b N S' c)) := by
  intro has
  change WA RX5 cX5_read 6 [] _ _ 0 0 0 [some (.ref 26), some (.ref 2), some (.int (nI N)), none, none, none] [] n _
  refine wa_aload_n dX5_read_0 rfl ?_
  refine wa_iconst (x := 0) dX5_read_1 (by decide) ?_
  refine p_TO hn 0 dX5_read_2 fl_X5_30 (by decide) rfl rfl rfl rfl (fun _ _ _ => rfl) (Nat.le_of_ble_eq_true rfl) ?_
  refine wa_iconst (x := 0) dX5_read_5 (by decide) ?_
  refine wa_istore_n dX5_read_6 rfl ?_
  refine wa_iconst (x := 0) dX5_read_7 (by decide) ?_
  refine wa_istore dX5_read_8 rfl ?_
  refine lp_read (b := b) (S0 := S) hn hN eb N 0 0 (ss S 26 0 0) _ (Nat.zero_add _) ⟨⟨rfl, fun a ha => ss_o _ _ _ (by omega)⟩, ss_e _ _ _ _, fun t ht => absurd ht (by omega), Nat.zero_le _, fun t ht => absurd ht (by omega)⟩ (fun S' k' x l5 h => ?_)
  have hkl := h.k_le (Nat.le_refl _)
  refine wa_aload_n dX5_read_67 rfl ?_
  refine wa_iconst (x := 4) dX5_read_68 (by decide) ?_
  refine wa_iload_n dX5_read_69 rfl ?_
  refine c_VV dX5_read_70 (tk_begin hn (by omega) h.2.1 _ _) lk_X5_38 rfl (isO_TO _ _ _) rfl (ltS hn) ?_
  refine wa_iconst (x := 0) dX5_read_73 (by decide) ?_
  refine wa_istore dX5_read_74 rfl ?_
  refine wa_cg (show bgn S' k' 4 (nI N) = sk (bgn S' k' 4 (nI N)) (bgn S' k' 4 (nI N)).2.2.2.2.1 from rfl) ?_
  refine lp_kws hn hN ?_ (h.tok hN) (k' + 1) 0 _ _ (Nat.zero_add _) (fun t ht => absurd ht (by omega)) (fun kf' hkf' => ⟨Nat.le_refl _, Nat.le_refl _, rfl, rfl, rfl, _, rfl, h.1.k kf', k' + 1, h.tok hN, hkf'⟩)
  show (bgn S' k' 4 (nI N)).1 2 = b
  unfold bgn
  rw [ss_o _ _ _ (by omega), ss_o _ _ _ (by omega), ss_o _ _ _ (by omega), ss_o _ _ _ (by omega), ss_o _ _ _ (by omega), h.1.2 2 (by omega), eb]

