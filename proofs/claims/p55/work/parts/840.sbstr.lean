/-! StringBuilder: append of a String. Written by program (wip/whole/gen/m840.py) but for the heads. -/
/-- a String made later, its bytes not the builder's -/
def STX (n : Nat) (S : SS) (a len : Nat) (fs : Nat → Int32) : Prop := (269 ≤ a ∧ a < n ∧ n ≤ ab_CB) ∧ len ≤ 16 ∧ ∃ v tl, (269 ≤ v ∧ v < n ∧ ¬ v = sbr S) ∧ ltc S a = .inr (6, .ref v :: .int 0 :: tl) ∧ ltc S v = .inl (1, len, .inl fs) ∧ ∀ i, i < len → 0 ≤ (fs i).toInt ∧ (fs i).toInt < 128
theorem STX.str {n a len : Nat} {S : SS} {fs : Nat → Int32} (h : STX n S a len fs) : STR n (Hp S) a len fs := by
  obtain ⟨h1, h2, v, tl, h3, h4, h5, h6⟩ := h
  exact ⟨by omega, 6, 4, v, tl, ⟨cl_ST.1, cl_ST.2.1, by decide⟩, ⟨Or.inl h1.2.1, (hp_lt S h1.1 (by omega)).trans h4⟩, Or.inl h3.2.1, (hp_lt S h3.1 (by omega)).trans h5⟩
theorem STX.fr {n n' m j a len : Nat} {S S' : SS} {f fs : Nat → Int32} (h : STX n S a len fs) (hb : SBI n S m j f) (q : FRb n S S') (hn : n ≤ n') (hn2 : n' ≤ ab_CB) : STX n' S' a len fs := by
  obtain ⟨h1, h2, v, tl, h3, h4, h5, h6⟩ := h
  have ha : ¬ a = sbr S := fun z => by
    rw [z, hb.2.1] at h4
    cases h4
  have := q.1.2.2.2.2.1
  exact ⟨⟨h1.1, by omega, hn2⟩, h2, v, tl, ⟨h3.1, by omega, by omega⟩, (q.1.2.2.2.2.2 a (by omega) ha).trans h4, (q.1.2.2.2.2.2 v (by omega) h3.2.2).trans h5, h6⟩
theorem NMX.stx {n a c i : Nat} {S : SS} {nf : Nat → Nat → Int32} {nl : Nat → Nat} (h : NMX n S a c nf nl) (hi : i < c) : STX n S (S.2.1 (a + 5 + 3 * i)) (nl i) (nf i) := by
  obtain ⟨⟨h1, h2⟩, v, tl, h3, h4, h5, h6⟩ := h.2 i hi
  exact ⟨⟨h3.1, h3.2, h.1⟩, by omega, v, tl, h4, h5, h6, fun j hj => by have := h1 j hj; rw [Nat.zero_add] at this; omega⟩
theorem js_getBytes {n m0 m j a len : Nat} {S : SS} {f fs : Nat → Int32} (h : SBI n S m0 j f) (hX : STX n S a len fs) (hc : m + len ≤ cpS j) : AM yJ0_getBytes_840e7 cJ0_getBytes_840e7 4 none [] 2 0 0 [.ref a, .ref (sbr S), .int (nI m), .int 0] n (Hp S) (PVh n (ab_up (Hp S) (sbr S) (.inl (1, cpS j, .inl (va_cpy fs f 0 m len))))) := by
  intro has
  change WA RJ0 cJ0_getBytes_840e7 4 [] _ _ 0 0 0 [some (.ref a), some (.ref (sbr S)), some (.int (nI m)), some (.int 0)] [] n _
  have hX0 := hX
  obtain ⟨h1, h2, v, tl, h3, h4, h5, h6⟩ := hX
  have he := (hp_lt S h1.1 (by omega)).trans h4
  have hve := (hp_lt S h3.1 (by omega)).trans h5
  have hj := cpS_le (j := j) (by have := h.2.2.2.1.2; omega)
  refine wa_aload_n dJ0_getBytes_840e7_0 rfl ?_
  refine c_VAh dJ0_getBytes_840e7_1 (am_scoder hX0.str) lk_J0_335 rfl he cl_ST.1 (Or.inl h1.2.1) ?_
  refine wa_iload_n dJ0_getBytes_840e7_4 rfl ?_
  refine wa_icmp_ne 28 dJ0_getBytes_840e7_5 rfl (fun c5 => absurd rfl c5) (fun c5 => ?_)
  refine wa_aload_n dJ0_getBytes_840e7_8 rfl ?_
  refine wa_getf 0 dJ0_getBytes_840e7_9 fl_J0_9 cl_ST.1 cl_ST.2.1 (by decide) (Or.inl h1.2.1) he rfl ?_
  refine wa_iconst (x := 0) dJ0_getBytes_840e7_12 (by decide) ?_
  refine wa_aload_n dJ0_getBytes_840e7_13 rfl ?_
  refine wa_iload_n dJ0_getBytes_840e7_14 rfl ?_
  refine wa_iload_n dJ0_getBytes_840e7_15 rfl ?_
  refine wa_ishl dJ0_getBytes_840e7_16 ?_
  rw [shl0]
  refine wa_aload_n dJ0_getBytes_840e7_17 rfl ?_
  refine wa_getf 0 dJ0_getBytes_840e7_18 fl_J0_9 cl_ST.1 cl_ST.2.1 (by decide) (Or.inl h1.2.1) he rfl ?_
  refine wa_alen (t := 1) (len := len) dJ0_getBytes_840e7_21 (by decide) (Or.inl h3.2.1) hve rfl ?_
  rw [show Int32.ofNat len = nI len from rfl]
  refine wa_copy (t := 1) (ty := .byte) (sp := 0) (dp := m) (len := len) dJ0_getBytes_840e7_22 lk_J0_212 h3.2.1 h.1.2.1 hve ((hp_lx S h.1.1 (by have := h.1.2; omega)).trans h.2.1) rfl rfl rfl (nI_toInt (by omega)) (nI_toInt (by omega)) (by omega) hc (fun i hi => (fits_b (by rw [Nat.zero_add]; exact h6 i hi)).1) (by simp [ab_rm]) ?_
  refine wa_goto 43 dJ0_getBytes_840e7_25 rfl ?_
  exact wa_return dJ0_getBytes_840e7_43 ⟨by simp, by simp, rfl, rfl, rfl, rfl⟩
theorem sb_inflateNo {n a len : Nat} {S : SS} {fs : Nat → Int32} (hn : 269 ≤ n) (hX : STX n S a len fs) : AM yJ5_inflateIfNeededFor_a7421 cJ5_inflateIfNeededFor_a7421 2 none [] 2 0 0 [.ref 267, .ref a] n (Hp S) (PVh n (Hp S)) := by
  intro has
  change WA RJ5 cJ5_inflateIfNeededFor_a7421 2 [] _ _ 0 0 0 [some (.ref 267), some (.ref a)] [] n _
  have hX0 := hX
  obtain ⟨h1, h2, v, tl, h3, h4, h5, h6⟩ := hX
  have he := (hp_lt S h1.1 (by omega)).trans h4
  have hve := (hp_lt S h3.1 (by omega)).trans h5
  refine wa_gets dJ5_inflateIfNeededFor_a7421_0 (v := .int 1) List.mem_cons_self fl_J5_18 trivial ?_
  refine wa_if_eq 21 dJ5_inflateIfNeededFor_a7421_3 rfl (fun c3 => absurd c3 (by decide)) (fun c3 => ?_)
  refine wa_aload_n dJ5_inflateIfNeededFor_a7421_6 rfl ?_
  refine g_SB hn 1 dJ5_inflateIfNeededFor_a7421_7 fl_J5_22 (by decide) rfl ?_
  refine wa_aload_n dJ5_inflateIfNeededFor_a7421_10 rfl ?_
  refine c_VAh dJ5_inflateIfNeededFor_a7421_11 (am_scoder hX0.str) lk_J5_40 rfl he cl_ST.1 (Or.inl h1.2.1) ?_
  refine wa_icmp_eq 21 dJ5_inflateIfNeededFor_a7421_14 rfl (fun c14 => ?_) (fun c14 => absurd rfl c14)
  exact wa_return dJ5_inflateIfNeededFor_a7421_21 ⟨by simp, by simp, rfl, rfl, rfl, rfl⟩
theorem sb_putStringAt {n m0 m j a len : Nat} {S : SS} {f fs : Nat → Int32} (h : SBI n S m0 j f) (hX : STX n S a len fs) (hc : m + len ≤ cpS j) (hn : 269 ≤ n) : AM yJ5_putStringAt_47b60 cJ5_putStringAt_47b60 3 none [] 3 0 0 [.ref 267, .int (nI m), .ref a] n (Hp S) (PVh n (ab_up (Hp S) (sbr S) (.inl (1, cpS j, .inl (va_cpy fs f 0 m len))))) := by
  intro has
  change WA RJ5 cJ5_putStringAt_47b60 3 [] _ _ 0 0 0 [some (.ref 267), some (.int (nI m)), some (.ref a)] [] n _
  have hX0 := hX
  obtain ⟨h1, h2, v, tl, h3, h4, h5, h6⟩ := hX
  have he := (hp_lt S h1.1 (by omega)).trans h4
  have hve := (hp_lt S h3.1 (by omega)).trans h5
  refine wa_aload_n dJ5_putStringAt_47b60_0 rfl ?_
  refine wa_aload_n dJ5_putStringAt_47b60_1 rfl ?_
  refine wa_callU (As := [.ref a]) dJ5_putStringAt_47b60_2 lk_J5_397 (sb_inflateNo hn hX0) (fun E n' h' q => by cases q.1) rfl (isO_SB _ _ _) rfl (Or.inl (ltS hn)) (by exact Nat.le_of_ble_eq_true rfl) (by unfold ab_fit ab_rm; refine ⟨?_, ?_, ?_, ?_⟩ <;> simp <;> omega) (by exact Nat.le_of_ble_eq_true rfl) (fun ro n' h' hq _ => ?_)
  obtain ⟨q1, q2, q3⟩ := hq
  rw [q2, q3]
  cases q1
  refine wa_aload_n dJ5_putStringAt_47b60_5 rfl ?_
  refine wa_aload_n dJ5_putStringAt_47b60_6 rfl ?_
  refine g_SB hn 0 dJ5_putStringAt_47b60_7 fl_J5_15 (by decide) rfl ?_
  refine wa_iload_n dJ5_putStringAt_47b60_10 rfl ?_
  refine wa_aload_n dJ5_putStringAt_47b60_11 rfl ?_
  refine g_SB hn 1 dJ5_putStringAt_47b60_12 fl_J5_22 (by decide) rfl ?_
  refine wa_callV dJ5_putStringAt_47b60_15 lk_J5_399 (js_getBytes h hX0 hc) rfl he cl_ST.1 (Or.inl h1.2.1) (by exact Nat.le_of_ble_eq_true rfl) (by unfold ab_fit ab_rm; refine ⟨?_, ?_, ?_, ?_⟩ <;> simp <;> omega) (by exact Nat.le_of_ble_eq_true rfl) (fun ro n' h' hq _ => ?_) (fun E n' h' q _ => by cases q.1)
  obtain ⟨q1, q2, q3⟩ := hq
  rw [q2, q3]
  cases q1
  exact wa_return dJ5_putStringAt_47b60_18 ⟨by simp, by simp, rfl, rfl, rfl, rfl⟩
/-- what an appended String leaves -/
def APS (n : Nat) (S : SS) (m j : Nat) (f : Nat → Int32) (len : Nat) (fs : Nat → Int32) (n' : Nat) (S' : SS) : Prop := n' = n + grw j (m + len) ∧ FRb n S S' ∧ ∃ f', SBI n' S' (m + len) (j + grw j (m + len)) f' ∧ (∀ i, i < m → f' i = f i) ∧ ∀ i, i < len → f' (m + i) = fs i
theorem lo_cpy {f fs : Nat → Int32} {m len : Nat} (h : ∀ i, 0 ≤ (f i).toInt ∧ (f i).toInt < 128) (hs : ∀ i, i < len → 0 ≤ (fs i).toInt ∧ (fs i).toInt < 128) : ∀ i, 0 ≤ (va_cpy fs f 0 m len i).toInt ∧ (va_cpy fs f 0 m len i).toInt < 128 := fun i => by
  unfold va_cpy
  by_cases hi : m ≤ i ∧ i < m + len
  · rw [if_pos hi]
    exact hs _ (by omega)
  · rw [if_neg hi]
    exact h i
theorem sb_appendS5 {n m j a len : Nat} {S : SS} {f fs : Nat → Int32} (hn : 269 ≤ n) (h : SBI n S m j f) (hX : STX n S a len fs) (hj7 : j ≤ 6) (hn1 : n + 1 < ab_CB) : AM yJ5_append_cf1ce cJ5_append_cf1ce 3 (some (.object "java/lang/AbstractStringBuilder")) [] 4 (grw j (m + len)) (grs j (m + len)) [.ref 267, .ref a] n (Hp S) (fun r n' h' => r = .inl (some (.ref 267)) ∧ ∃ S', h' = Hp S' ∧ APS n S m j f len fs n' S') := by
  intro has
  change WA RJ5 cJ5_append_cf1ce 3 [] _ _ 0 0 0 [some (.ref 267), some (.ref a), none] [] n _
  have hX0 := hX
  obtain ⟨h1, h2, v, tl, h3, h4, h5, h6⟩ := hX
  have he := (hp_lt S h1.1 (by omega)).trans h4
  have hve := (hp_lt S h3.1 (by omega)).trans h5
  have e3 := h.2.2.1
  have hj := cpS_le (j := j) (by have := h.2.2.2.1.2; omega)
  have hm := h.2.2.2.1.1
  obtain ⟨hs, h16⟩ := cpS_s j
  refine wa_aload_n dJ5_append_cf1ce_0 rfl ?_
  refine wa_ifnonnull 9 dJ5_append_cf1ce_1 rfl ?_
  refine wa_aload_n dJ5_append_cf1ce_9 rfl ?_
  refine c_VAh dJ5_append_cf1ce_10 (am_slen hX0.str) lk_J5_32 rfl he cl_ST.1 (Or.inl h1.2.1) ?_
  refine wa_istore_n dJ5_append_cf1ce_13 rfl ?_
  refine wa_aload_n dJ5_append_cf1ce_14 rfl ?_
  refine wa_aload_n dJ5_append_cf1ce_15 rfl ?_
  refine g_SB hn 3 dJ5_append_cf1ce_16 fl_J5_79 (by decide) (v := .int (nI m)) (congrArg (fun x => some (Value.int x)) e3) ?_
  refine wa_iload_n dJ5_append_cf1ce_19 rfl ?_
  refine wa_iadd dJ5_append_cf1ce_20 ?_
  rw [nI_addS]
  refine wa_callU (As := [.int (nI (m + len))]) dJ5_append_cf1ce_21 lk_J5_100 (sb_ensure hn h (by omega) hj7 hn1) (fun E n' h' q => by cases q.1) rfl (isO_SB _ _ _) rfl (Or.inl (ltS hn)) (by exact Nat.le_of_ble_eq_true rfl) (by unfold ab_fit ab_rm; refine ⟨?_, ?_, ?_, ?_⟩ <;> simp <;> omega) (by exact Nat.le_of_ble_eq_true rfl) (fun ro n' h' hq _ => ?_)
  obtain ⟨q1, S1, q2, q3, q4, q5, ⟨f1, k1, q6⟩, q7⟩ := hq
  subst q3
  rw [q2]
  cases q1
  have hn' : 269 ≤ n + grw j (m + len) := by omega
  have e31 := k1.2.2.1
  have hX1 := hX0.fr h q4 (by omega) k1.1.2.2
  refine wa_aload_n dJ5_append_cf1ce_24 rfl ?_
  refine wa_aload_n dJ5_append_cf1ce_25 rfl ?_
  refine g_SB hn' 3 dJ5_append_cf1ce_26 fl_J5_79 (by decide) (v := .int (nI m)) (congrArg (fun x => some (Value.int x)) e31) ?_
  refine wa_aload_n dJ5_append_cf1ce_29 rfl ?_
  refine wa_callU (As := [.int (nI m), .ref a]) dJ5_append_cf1ce_30 lk_J5_208 (sb_putStringAt k1 hX1 q7 hn') (fun E n' h' q => by cases q.1) rfl (isO_SB _ _ _) rfl (Or.inl (ltS hn')) (by exact Nat.le_of_ble_eq_true rfl) (by unfold ab_fit ab_rm; refine ⟨?_, ?_, ?_, ?_⟩ <;> simp <;> omega) (by exact Nat.le_of_ble_eq_true rfl) (fun ro n' h' hq _ => ?_)
  obtain ⟨z1, z2, z3⟩ := hq
  rw [z2, z3]
  cases z1
  rw [hp_slx k1.1.1 (by have := k1.1.2; omega)]
  refine wa_aload_n dJ5_append_cf1ce_33 rfl ?_
  refine wa_dup dJ5_append_cf1ce_34 rfl ?_
  refine g_SB hn' 3 dJ5_append_cf1ce_35 fl_J5_79 (by decide) (v := .int (nI m)) (congrArg (fun x => some (Value.int x)) e31) ?_
  refine wa_iload_n dJ5_append_cf1ce_38 rfl ?_
  refine wa_iadd dJ5_append_cf1ce_39 ?_
  rw [nI_addS]
  refine p_SB hn' 3 dJ5_append_cf1ce_40 fl_J5_79 (by decide) rfl rfl rfl rfl (fun _ _ _ => rfl) (Nat.le_of_ble_eq_true rfl) ?_
  refine wa_aload_n dJ5_append_cf1ce_43 rfl ?_
  exact wa_areturn dJ5_append_cf1ce_44 ⟨by simp, by simp, ⟨_, rfl, Or.inl ⟨_, rfl⟩⟩, rfl, _, rfl, rfl, ⟨⟨q4.1.1, q4.1.2.1, q4.1.2.2.1, q4.1.2.2.2.1, q4.1.2.2.2.2.1, fun k hk hs => (if_neg (fun z => by have := q4.1.2.2.2.2.1; omega)).trans (q4.1.2.2.2.2.2 k hk hs)⟩, fun a ha => (ss_o (sl S1 (fun k => if k = sbr S1 then .inl (1, cpS (j + grw j (m + len)), .inl (va_cpy fs f1 0 m len)) else ltc S1 k)) _ _ ha).trans (q4.2.1 a ha), q4.2.2⟩, va_cpy fs f1 0 m len, ⟨k1.1, if_pos rfl, ss_e (sl S1 (fun k => if k = sbr S1 then .inl (1, cpS (j + grw j (m + len)), .inl (va_cpy fs f1 0 m len)) else ltc S1 k)) 267 3 (nI (m + len)), ⟨q7, k1.2.2.2.1.2⟩, lo_cpy k1.2.2.2.2 h6⟩, fun i hi => (if_neg (by omega)).trans (q6 i hi), fun i hi => (if_pos (by omega)).trans (by rw [Nat.zero_add, show m + i - m = i by omega])⟩
theorem sb_appendS {n m j a len : Nat} {S : SS} {f fs : Nat → Int32} (hn : 269 ≤ n) (h : SBI n S m j f) (hX : STX n S a len fs) (hj7 : j ≤ 6) (hn1 : n + 1 < ab_CB) : AM yJ4_append_15ec4 cJ4_append_15ec4 2 (some (.object "java/lang/StringBuilder")) [] 5 (grw j (m + len)) (grs j (m + len)) [.ref 267, .ref a] n (Hp S) (fun r n' h' => r = .inl (some (.ref 267)) ∧ ∃ S', h' = Hp S' ∧ APS n S m j f len fs n' S') := by
  intro has
  change WA RJ4 cJ4_append_15ec4 2 [] _ _ 0 0 0 [some (.ref 267), some (.ref a)] [] n _
  refine wa_aload_n dJ4_append_15ec4_0 rfl ?_
  refine wa_aload_n dJ4_append_15ec4_1 rfl ?_
  refine wa_callSU (As := [.ref a]) dJ4_append_15ec4_2 lk_J4_29_s (sb_appendS5 hn h hX hj7 hn1) (fun E n' h' q => by cases q.1) rfl (isO_SB _ _ _) rfl (Or.inl (ltS hn)) (by exact Nat.le_of_ble_eq_true rfl) (by unfold ab_fit ab_rm; refine ⟨?_, ?_, ?_, ?_⟩ <;> simp <;> omega) (by exact Nat.le_of_ble_eq_true rfl) (fun ro n' h' hq _ => ?_)
  obtain ⟨q1, S1, q2, q3⟩ := hq
  cases q1
  rw [q2]
  refine wa_pop dJ4_append_15ec4_5 rfl ?_
  refine wa_aload_n dJ4_append_15ec4_6 rfl ?_
  exact wa_areturn dJ4_append_15ec4_7 ⟨by simp, by simp, ⟨_, rfl, Or.inl ⟨_, rfl⟩⟩, rfl, S1, rfl, q3⟩

