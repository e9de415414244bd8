/-! ValveRoom$Parser: wordHere. Written by program (wip/whole/gen/m862.py) but for the heads. -/
/-- the letters at p, k of them written into a new char[] of l -/
def wst (S : SS) (n l : Nat) (b : Nat → Int32) (p k : Nat) : SS := sl S (fun q => if q = n then .inl (3, l, .inl (pre7 (fun j => b (p + j)) k)) else ltc S q)
theorem wst_at {S : SS} {n l : Nat} {b : Nat → Int32} {p k : Nat} (h : 269 ≤ n) (hn : n < ab_CB) : Hp (wst S n l b p k) n = .inl (3, l, .inl (pre7 (fun j => b (p + j)) k)) := (hp_lt _ h hn).trans (if_pos rfl)
theorem wst_mk {S : SS} {n l : Nat} {b : Nat → Int32} {p k : Nat} (h : 269 ≤ n) (hn : n < ab_CB) : ab_up (Hp S) n (.inl (3, l, .inl (pre7 (fun j => b (p + j)) k))) = Hp (wst S n l b p k) := hp_sl h hn
theorem wst_up {S : SS} {n l : Nat} {b : Nat → Int32} {p k : Nat} {x : va_E} (h : 269 ≤ n) (hn : n < ab_CB) : ab_up (Hp (wst S n l b p k)) n x = ab_up (Hp S) n x := by
  rw [← wst_mk h hn, up_up7]
theorem i2c_lo {x : Int32} (h : 0 ≤ x.toInt ∧ x.toInt < 128) : vp_nar .char (x.toUInt32 % 65536).toInt32 = x := by
  obtain ⟨e, -⟩ := nI_of_nn h.1
  rw [e]
  exact (by decide +kernel : ∀ k, k < 128 → vp_nar .char ((nI k).toUInt32 % 65536).toInt32 = nI k) _ (by omega)
theorem lp_wordH {Q : ab_Q} {b : Nat → Int32} {N c n p l : Nat} {S : SS} {t told : Nat} {δ : Nat → Int32} {nf : Nat → Nat → Int32} {nl : Nat → Nat} (hn : 269 ≤ n) (hnb : n + 4 ≤ ab_CB) (h : CS b N c n S t told δ nf nl) (hp : pos b N t = p) (hl : l ≤ 6) (hpl : p + l ≤ 500) (hL : ∀ i, i < l → 0 ≤ (b (p + i)).toInt ∧ (b (p + i)).toInt < 128) : ∀ (r k : Nat), k + r = l → WA RX3 cX3_wordHere 3 [] (ab_rm 5 3 16) Q 1 l 52 [some (.ref 1), some (.ref n), some (.int (nI (l)))] [] (n + 1) (Hp (wst S n l b p (l))) → WA RX3 cX3_wordHere 3 [] (ab_rm 5 3 16) Q 1 l 17 [some (.ref 1), some (.ref n), some (.int (nI (k)))] [] (n + 1) (Hp (wst S n l b p (k))) := by
  have htL := h.tL
  have hcL := h.cL
  intro r
  induction r with
  | zero =>
    intro k hk hQ
    have hk2 : l = k := by omega
    refine wa_iload_n dX3_wordHere_17 rfl ?_
    refine wa_aload_n dX3_wordHere_18 rfl ?_
    refine wa_alen (t := 3) (len := l) dX3_wordHere_19 (by decide) (Or.inl (Nat.lt_succ_self n)) (wst_at hn (by omega)) rfl ?_
    refine wa_icmp_ge 52 dX3_wordHere_20 rfl (fun c20 => ?_) (fun c20 => absurd (by rw [hk2]; exact Int32.le_refl _) c20)
    rw [← hk2]
    exact hQ
  | succ r ih =>
    intro k hk hQ
    refine wa_iload_n dX3_wordHere_17 rfl ?_
    refine wa_aload_n dX3_wordHere_18 rfl ?_
    refine wa_alen (t := 3) (len := l) dX3_wordHere_19 (by decide) (Or.inl (Nat.lt_succ_self n)) (wst_at hn (by omega)) rfl ?_
    refine wa_icmp_ge 52 dX3_wordHere_20 rfl (fun c20 => absurd c20 (nI_ge (by omega) (by omega))) (fun c20 => ?_)
    refine wa_aload_n dX3_wordHere_23 rfl ?_
    refine wa_iload_n dX3_wordHere_24 rfl ?_
    refine wa_aload_n dX3_wordHere_25 rfl ?_
    refine g_PA (by omega) 0 dX3_wordHere_26 fl_X3_9 (by decide) rfl ?_
    refine wa_aload_n dX3_wordHere_29 rfl ?_
    refine g_PA (by omega) 5 dX3_wordHere_30 fl_X3_25 (by decide) rfl ?_
    refine g_TO (by omega) 2 dX3_wordHere_33 fl_X3_70 (by decide) rfl ?_
    refine wa_aload_n dX3_wordHere_36 rfl ?_
    refine g_PA (by omega) 6 dX3_wordHere_37 fl_X3_37 (by decide) (v := .int (nI t)) (congrArg (fun x => some (Value.int x)) h.a) ?_
    refine s_iald (j := t) isA_starts dX3_wordHere_40 (ltS (by omega)) (ix_nI (by omega)) (by omega) ?_
    rw [show (wst S n l b p k).1 28 t = nI p from h.st.trans (congrArg nI hp)]
    refine wa_iload_n dX3_wordHere_41 rfl ?_
    refine wa_iadd dX3_wordHere_42 ?_
    rw [nI_addS]
    refine s_bald (j := p + k) isA_text dX3_wordHere_43 (ltS (by omega)) (nI_toInt (by omega)) (by omega) ?_
    rw [show (wst S n l b p k).1 2 (p + k) = b (p + k) from congrFun h.bE _]
    refine wa_i2c dX3_wordHere_44 ?_
    refine wa_cast (len := l) (j := k) (f := pre7 (fun j => b (p + j)) k) dX3_wordHere_45 (Nat.lt_succ_self n) (wst_at hn (by omega)) (nI_toInt (by omega)) (by omega) ?_
    rw [wst_up hn (by omega), i2c_lo (hL k (by omega)), pre7_s (fun j => b (p + j)) k, wst_mk hn (by omega)]
    refine wa_iinc (y := 1) dX3_wordHere_46 rfl (by decide) rfl ?_
    refine wa_goto 17 dX3_wordHere_49 rfl ?_
    rw [nI_1 k]
    exact ih (k + 1) (by omega) hQ
theorem px_wordHere : WHT := by
  intro b N c n S t told δ nf nl hn hnb h hs
  intro has
  change WA RX3 cX3_wordHere 3 [] _ _ 0 0 0 [some (.ref 1), none, none] [] n _
  have htL := h.tL
  have hcL := h.cL
  obtain ⟨i1, i2, -⟩ := isNm_iff.mp hs
  obtain ⟨hLT, hl0⟩ := let_tok i1
  have h500 := tok_500 h
  have hlt : ∀ i, i < te b N (pos b N t) - pos b N t → 0 ≤ (b (pos b N t + i)).toInt ∧ (b (pos b N t + i)).toInt < 128 := fun i hi => by have := hLT i hi; omega
  have hln := h.ln
  generalize hp : pos b N t = p at *
  generalize te b N p - p = l at *
  refine wa_aload_n dX3_wordHere_0 rfl ?_
  refine g_PA hn 5 dX3_wordHere_1 fl_X3_25 (by decide) rfl ?_
  refine g_TO hn 3 dX3_wordHere_4 fl_X3_84 (by decide) rfl ?_
  refine wa_aload_n dX3_wordHere_7 rfl ?_
  refine g_PA hn 6 dX3_wordHere_8 fl_X3_37 (by decide) (v := .int (nI t)) (congrArg (fun x => some (Value.int x)) h.a) ?_
  refine s_iald (j := t) isA_lengths dX3_wordHere_11 (ltS hn) (ix_nI (by omega)) (by omega) ?_
  rw [hln]
  refine wa_newC (len := l) dX3_wordHere_12 (nI_toInt (by omega)) (by omega) (by omega) (by simp [ab_rm]) (by simp [ab_rm]; omega) ?_
  rw [← pre7_0 (fun j => b (p + j)), wst_mk hn (by omega), Nat.zero_add, Nat.zero_add]
  refine wa_astore_n dX3_wordHere_14 rfl ?_
  refine wa_iconst (x := 0) dX3_wordHere_15 (by decide) ?_
  refine wa_istore_n dX3_wordHere_16 rfl ?_
  refine lp_wordH hn hnb h hp i2 (by omega) hlt l 0 (Nat.zero_add _) ?_
  refine wa_new (fs := [.null, .int 0, .int 0, .int 0]) tyJ0 dX3_wordHere_52 wk_X3_235 wi_J0 wz_J0 cl_ST.1 cl_ST.2.1 cl_ST.2.2.1 (by decide) (fun _ => rfl) (fun v hv => by simp at hv; rcases hv with rfl | rfl <;> trivial) (by omega) (by simp [ab_rm]) (by simp [ab_rm]; omega) ?_
  rw [hp_sl (S := wst S n l b p l) (n := n + 1) (by omega) (by omega)]
  refine wa_dup dX3_wordHere_55 rfl ?_
  refine wa_aload_n dX3_wordHere_56 rfl ?_
  refine wa_callIc (As := [.ref n]) dX3_wordHere_57 lk_X3_237 (js_initC (n := n + 1 + 1) (a := n) (b := n + 1) (len := l) (f := pre7 (fun j => b (p + j)) l) (tl := [.int 0, .int 0]) (by omega) (by omega) (by omega) ((hp_lt _ (by omega) (by omega)).trans (by show (if n = n + 1 then _ else _) = _; rw [if_neg (by omega)]; exact if_pos rfl)) (fun i hi => by show 0 ≤ (if i < l then b (p + i) else 0).toInt ∧ (if i < l then b (p + i) else 0).toInt < 128; rw [if_pos hi]; exact hlt i hi) (by omega) ((hp_lt _ (by omega) (by omega)).trans (if_pos rfl)) hl0) (fun E n' h' q => by cases q.1) rfl rfl (by exact Nat.le_of_ble_eq_true rfl) (by unfold ab_fitc ab_rm; refine ⟨?_, ?_, ?_, ?_⟩ <;> simp <;> omega) (by exact Nat.le_of_ble_eq_true rfl) (fun ro n' h' q _ => ?_)
  obtain ⟨q1, q2, q3⟩ := q
  rw [q2, q3]
  cases q1
  rw [hp_sl (by omega) (by omega), hp_sl (by omega) (by omega)]
  refine wa_areturn dX3_wordHere_60 ⟨by omega, by omega, ⟨_, rfl, Or.inl ⟨_, rfl⟩⟩, rfl, rfl, _, [.int 0, .int 0], rfl, fun k hk => ?_, ?_, ?_⟩
  · show (if k = n + 1 then _ else if k = n + 1 + 1 then _ else if k = n + 1 then _ else if k = n then _ else _) = _
    rw [if_neg (by omega), if_neg (by omega), if_neg (by omega), if_neg (by omega)]
  · exact if_pos rfl
  · show (if n + 2 = n + 1 then _ else if n + 2 = n + 1 + 1 then _ else _) = _
    rw [if_neg (by omega), if_pos rfl]
    congr 4
    funext j
    show (if j < l then (if j < l then b (p + j) else 0) else 0) = _
    by_cases hj : j < l
    · rw [if_pos hj, if_pos hj]
      try rfl
    · rw [if_neg hj]
      try rw [if_neg hj]

