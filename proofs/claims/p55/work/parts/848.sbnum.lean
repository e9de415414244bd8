/-! StringBuilder: append of a number. Written by program (wip/whole/gen/m848.py) but for the heads. -/
theorem WA_h {Xx : ab_X} {own : String} {cc : ByteArray} {nL : Nat} {hh : List (Nat × Nat × Nat × Nat)} {R : Room} {Q : ab_Q} {k z pc : Nat} {ls : List (Option Value)} {st : List Value} {n : Nat} {h1 h2 : ab_H} (e : h1 = h2) (hw : WX Xx own cc nL hh R Q k z pc ls st n h1) : WX Xx own cc nL hh R Q k z pc ls st n h2 := e ▸ hw
theorem dd_at {B o a : Nat} : ∀ (j i : Nat) (c : Int32), (dd B o a j)[i]? = some c → i < j ∧ c = nI (o + a / B ^ (j - 1 - i) % B)
  | 0, i, c, h => by
    unfold dd at h
    simp at h
  | j + 1, 0, c, h => by
    unfold dd at h
    simp at h
    exact ⟨by omega, by rw [← h]; rfl⟩
  | j + 1, i + 1, c, h => by
    unfold dd at h
    rw [List.getElem?_cons_succ] at h
    obtain ⟨h1, h2⟩ := dd_at j i c h
    exact ⟨by omega, by rw [h2, show j + 1 - 1 - (i + 1) = j - 1 - i by omega]⟩
def sgv (v : Int32) : Nat := if v < 0 then 1 else 0
theorem decI_ln (v : Int32) : (decI v).length = dk 10 v.toInt.natAbs + 1 + sgv v := decI_l v
theorem gfin_at {f : Nat → Int32} {v : Int32} {e : Nat} (h : (decI v).length ≤ e) : (∀ i, i < e - (decI v).length → gfin f v.toInt.natAbs e (sgv v) i = f i) ∧ ∀ i c, (decI v)[i]? = some c → gfin f v.toInt.natAbs e (sgv v) (e - (decI v).length + i) = c := by
  rw [decI_ln] at h ⊢
  unfold sgv gfin at *
  by_cases hv : v < 0
  · rw [if_pos hv] at h ⊢
    rw [if_neg (by decide)]
    refine ⟨fun i hi => (upd_o (by omega)).trans (if_neg (by omega)), fun i c hc => ?_⟩
    unfold decI at hc
    rw [if_pos hv] at hc
    cases i with
    | zero =>
      simp at hc
      rw [← hc, show e - (dk 10 v.toInt.natAbs + 1 + 1) + 0 = e - (dk 10 v.toInt.natAbs + 2) by omega, upd_e]
    | succ i =>
      simp at hc
      obtain ⟨h1, h2⟩ := dd_at _ i c hc
      rw [upd_o (by omega)]
      unfold gch
      rw [if_pos (by omega), h2, show e - 1 - (e - (dk 10 v.toInt.natAbs + 1 + 1) + (i + 1)) = dk 10 v.toInt.natAbs + 1 - 1 - i by omega]
  · rw [if_neg hv] at h ⊢
    rw [if_pos rfl]
    refine ⟨fun i hi => if_neg (by omega), fun i c hc => ?_⟩
    unfold decI at hc
    rw [if_neg hv] at hc
    simp at hc
    obtain ⟨h1, h2⟩ := dd_at _ i c hc
    unfold gch
    rw [if_pos (by omega), h2, show e - 1 - (e - (dk 10 v.toInt.natAbs + 1 + 0) + i) = dk 10 v.toInt.natAbs + 1 - 1 - i by omega]
theorem gfin_lo {f : Nat → Int32} {a e s : Nat} (h : ∀ i, 0 ≤ (f i).toInt ∧ (f i).toInt < 128) : ∀ i, 0 ≤ (gfin f a e s i).toInt ∧ (gfin f a e s i).toInt < 128 := by
  have h1 : ∀ k i, 0 ≤ (gch f a e k i).toInt ∧ (gch f a e k i).toInt < 128 := fun k i => by
    unfold gch
    split
    · rw [nI_toInt (by omega)]
      omega
    · exact h i
  unfold gfin
  split
  · exact h1 _
  · exact lo_upd (h1 _) (by decide)
theorem js_getChars {n b L e : Nat} {h : ab_H} {f : Nat → Int32} {v : Int32} (hb : b < n) (hf : h b = .inl (1, L, .inl f)) (ha : v.toInt.natAbs < 100000000) (he : e ≤ L) (hL : L < 1000000) (hl : (decI v).length ≤ e) (hnb : n ≤ ab_CB) (hk2 : h (ab_CB + 132) = ab_kc 132) (hk3 : h (ab_CB + 133) = ab_kc 133) : AM yJ6_getChars_ba4f3 cJ6_getChars_ba4f3 7 (some .int) [] 0 0 0 [.int v, .int (nI e), .ref b] n h (fun r n' h' => r = .inl (some (.int (nI (e - (decI v).length)))) ∧ n' = n ∧ h' = ab_up h b (.inl (1, L, .inl (gfin f v.toInt.natAbs e (sgv v))))) := by
  intro has
  change WA RJ6 cJ6_getChars_ba4f3 7 [] _ _ 0 0 0 [some (.int v), some (.int (nI e)), some (.ref b), none, none, none, none] [] n _
  have e1 := decI_ln v
  have hb0 : ab_up h b (.inl (1, L, .inl (gch f v.toInt.natAbs e 0))) = h := up_same (by rw [gch_0]; exact hf)
  by_cases hv : v < 0
  · skip
    have es : sgv v = 1 := if_pos hv
    have ev := v_neg hv
    rw [e1, es] at hl ⊢
    clear e1 es
    generalize v.toInt.natAbs = a at *
    subst ev
    refine wa_iload_n dJ6_getChars_ba4f3_0 rfl ?_
    refine wa_istore dJ6_getChars_ba4f3_1 rfl ?_
    refine wa_iload_n dJ6_getChars_ba4f3_3 rfl ?_
    refine wa_if_ge 11 dJ6_getChars_ba4f3_4 rfl (fun c4 => absurd hv (Int32.not_lt.mpr c4)) (fun c4 => ?_)
    refine wa_iconst (x := 1) dJ6_getChars_ba4f3_7 (by decide) ?_
    refine wa_goto 12 dJ6_getChars_ba4f3_8 rfl ?_
    refine wa_istore dJ6_getChars_ba4f3_12 rfl ?_
    refine wa_iload dJ6_getChars_ba4f3_14 rfl ?_
    refine wa_if_ne 22 dJ6_getChars_ba4f3_16 rfl (fun c16 => ?_) (fun c16 => absurd c16 (by decide))
    refine WA_h hb0 ?_
    exact lp_gloop (s := 1) hb ha he hL (by decide) (by omega) hnb hk2 hk3 ⟨Nat.le_refl _, Nat.le_refl _, ⟨_, rfl, rfl⟩, rfl, rfl, rfl⟩ 4 _ 0 none none (fun _ _ => rfl) (by rw [Nat.mul_zero, Nat.pow_zero, Nat.div_one]) (by omega) (Or.inr rfl)
  · skip
    have es : sgv v = 0 := if_neg hv
    have ev := v_pos hv
    rw [e1, es] at hl ⊢
    clear e1 es
    generalize v.toInt.natAbs = a at *
    subst ev
    refine wa_iload_n dJ6_getChars_ba4f3_0 rfl ?_
    refine wa_istore dJ6_getChars_ba4f3_1 rfl ?_
    refine wa_iload_n dJ6_getChars_ba4f3_3 rfl ?_
    refine wa_if_ge 11 dJ6_getChars_ba4f3_4 rfl (fun c4 => ?_) (fun c4 => absurd (Int32.not_lt.mp hv) c4)
    refine wa_iconst (x := 0) dJ6_getChars_ba4f3_11 (by decide) ?_
    refine wa_istore dJ6_getChars_ba4f3_12 rfl ?_
    refine wa_iload dJ6_getChars_ba4f3_14 rfl ?_
    refine wa_if_ne 22 dJ6_getChars_ba4f3_16 rfl (fun c16 => absurd rfl c16) (fun c16 => ?_)
    refine wa_iload_n dJ6_getChars_ba4f3_19 rfl ?_
    refine wa_ineg dJ6_getChars_ba4f3_20 ?_
    refine wa_istore_n dJ6_getChars_ba4f3_21 rfl ?_
    refine WA_h hb0 ?_
    exact lp_gloop (s := 0) hb ha he hL (by decide) (by omega) hnb hk2 hk3 ⟨Nat.le_refl _, Nat.le_refl _, ⟨_, rfl, rfl⟩, rfl, rfl, rfl⟩ 4 _ 0 none none (fun _ _ => rfl) (by rw [Nat.mul_zero, Nat.pow_zero, Nat.div_one]) (by omega) (Or.inr rfl)
/-- what an appended number leaves -/
def APL (n : Nat) (S : SS) (m j : Nat) (f : Nat → Int32) (l : List Int32) (n' : Nat) (S' : SS) : Prop := n' = n + grw j (m + l.length) ∧ FRb n S S' ∧ ∃ f', SBI n' S' (m + l.length) (j + grw j (m + l.length)) f' ∧ (∀ i, i < m → f' i = f i) ∧ ∀ i c, l[i]? = some c → f' (m + i) = c
theorem decI_11 {v : Int32} (ha : v.toInt.natAbs < 100000000) : (decI v).length ≤ 9 := by
  rw [decI_ln]
  have := dk_le (B := 10) (a := v.toInt.natAbs) (m := 7) (by decide) (by omega)
  unfold sgv
  split <;> omega
theorem sb_appendI5 {n m j : Nat} {S : SS} {f : Nat → Int32} {v : Int32} (hn : 269 ≤ n) (h : SBI n S m j f) (ha : v.toInt.natAbs < 100000000) (hj7 : j ≤ 6) (hn1 : n + 1 < ab_CB) : AM yJ5_append_c97b9 cJ5_append_c97b9 4 (some (.object "java/lang/AbstractStringBuilder")) [] 4 (grw j (m + (decI v).length)) (grs j (m + (decI v).length)) [.ref 267, .int v] n (Hp S) (fun r n' h' => r = .inl (some (.ref 267)) ∧ ∃ S', h' = Hp S' ∧ APL n S m j f (decI v) n' S') := by
  intro has
  change WA RJ5 cJ5_append_c97b9 4 [] _ _ 0 0 0 [some (.ref 267), some (.int v), none, none] [] n _
  have e3 := h.2.2.1
  have hj := cpS_le (j := j) (by have := h.2.2.2.1.2; omega)
  have hm := h.2.2.2.1.1
  obtain ⟨hs, h16⟩ := cpS_s j
  have h11 := decI_11 ha
  refine wa_aload_n dJ5_append_c97b9_0 rfl ?_
  refine g_SB hn 3 dJ5_append_c97b9_1 fl_J5_79 (by decide) (v := .int (nI m)) (congrArg (fun x => some (Value.int x)) e3) ?_
  refine wa_istore_n dJ5_append_c97b9_4 rfl ?_
  refine wa_iload_n dJ5_append_c97b9_5 rfl ?_
  refine wa_iload_n dJ5_append_c97b9_6 rfl ?_
  refine c_SAh dJ5_append_c97b9_7 (js_stringSize ha) lk_J5_245 rfl ?_
  refine wa_iadd dJ5_append_c97b9_10 ?_
  rw [nI_addS]
  refine wa_istore_n dJ5_append_c97b9_11 rfl ?_
  refine wa_aload_n dJ5_append_c97b9_12 rfl ?_
  refine wa_iload_n dJ5_append_c97b9_13 rfl ?_
  refine wa_callU (As := [.int (nI (m + (decI v).length))]) dJ5_append_c97b9_14 lk_J5_100 (sb_ensure hn h (by omega) hj7 hn1) (fun E n' h' q => by cases q.1) rfl (isO_SB _ _ _) rfl (Or.inl (ltS hn)) (by exact Nat.le_of_ble_eq_true rfl) (by unfold ab_fit ab_rm; refine ⟨?_, ?_, ?_, ?_⟩ <;> simp <;> omega) (by exact Nat.le_of_ble_eq_true rfl) (fun ro n' h' hq _ => ?_)
  obtain ⟨q1, S1, q2, q3, q4, q5, ⟨f1, k1, q6⟩, q7⟩ := hq
  subst q3
  rw [q2]
  cases q1
  have hn' : 269 ≤ n + grw j (m + (decI v).length) := by omega
  have e31 := k1.2.2.1
  have hj1 := cpS_le (j := j + grw j (m + (decI v).length)) (by have := k1.2.2.2.1.2; omega)
  refine wa_aload_n dJ5_append_c97b9_17 rfl ?_
  refine wa_callU (As := []) dJ5_append_c97b9_18 lk_J5_83 (sb_isLatin1 hn') (fun E n' h' q => by cases q.1) rfl (isO_SB _ _ _) rfl (Or.inl (ltS hn')) (by exact Nat.le_of_ble_eq_true rfl) (by unfold ab_fit ab_rm; refine ⟨?_, ?_, ?_, ?_⟩ <;> simp <;> omega) (by exact Nat.le_of_ble_eq_true rfl) (fun ro n' h' hq _ => ?_)
  obtain ⟨q1, q2, q3⟩ := hq
  rw [q2, q3]
  cases q1
  refine wa_if_eq 37 dJ5_append_c97b9_21 rfl (fun c21 => absurd c21 (by decide)) (fun c21 => ?_)
  refine wa_iload_n dJ5_append_c97b9_24 rfl ?_
  refine wa_iload_n dJ5_append_c97b9_25 rfl ?_
  refine wa_aload_n dJ5_append_c97b9_26 rfl ?_
  refine g_SB hn' 0 dJ5_append_c97b9_27 fl_J5_15 (by decide) rfl ?_
  refine wa_callS dJ5_append_c97b9_30 lk_J5_248 (js_getChars k1.1.2.1 ((hp_lx S1 k1.1.1 (by have := k1.1.2; omega)).trans k1.2.1) ha q7 (by omega) (by omega) k1.1.2.2 (hp_kc S1 132) (hp_kc S1 133)) rfl (by exact Nat.le_of_ble_eq_true rfl) (by unfold ab_fit ab_rm; refine ⟨?_, ?_, ?_, ?_⟩ <;> simp <;> omega) (by exact Nat.le_of_ble_eq_true rfl) (fun ro n' h' hq _ => ?_) (fun E n' h' q _ => by cases q.1)
  obtain ⟨z1, z2, z3⟩ := hq
  rw [z2, z3]
  cases z1
  rw [hp_slx k1.1.1 (by have := k1.1.2; omega)]
  refine wa_pop dJ5_append_c97b9_33 rfl ?_
  refine wa_goto 48 dJ5_append_c97b9_34 rfl ?_
  refine wa_aload_n dJ5_append_c97b9_48 rfl ?_
  refine wa_iload_n dJ5_append_c97b9_49 rfl ?_
  refine p_SB hn' 3 dJ5_append_c97b9_50 fl_J5_79 (by decide) rfl rfl rfl rfl (fun _ _ _ => rfl) (Nat.le_of_ble_eq_true rfl) ?_
  refine wa_aload_n dJ5_append_c97b9_53 rfl ?_
  obtain ⟨g1, g2⟩ := gfin_at (f := f1) (v := v) (e := m + (decI v).length) (by omega)
  rw [show m + (decI v).length - (decI v).length = m by omega] at g1 g2
  exact wa_areturn dJ5_append_c97b9_54 ⟨by simp, by simp, ⟨_, rfl, Or.inl ⟨_, rfl⟩⟩, rfl, _, rfl, rfl, ⟨⟨q4.1.1, q4.1.2.1, q4.1.2.2.1, q4.1.2.2.2.1, q4.1.2.2.2.2.1, fun k hk hs => (if_neg (fun z => by have := q4.1.2.2.2.2.1; omega)).trans (q4.1.2.2.2.2.2 k hk hs)⟩, fun a ha => (ss_o (sl S1 (fun k => if k = sbr S1 then .inl (1, cpS (j + grw j (m + (decI v).length)), .inl (gfin f1 v.toInt.natAbs (m + (decI v).length) (sgv v))) else ltc S1 k)) _ _ ha).trans (q4.2.1 a ha), q4.2.2⟩, gfin f1 v.toInt.natAbs (m + (decI v).length) (sgv v), ⟨k1.1, if_pos rfl, ss_e (sl S1 (fun k => if k = sbr S1 then .inl (1, cpS (j + grw j (m + (decI v).length)), .inl (gfin f1 v.toInt.natAbs (m + (decI v).length) (sgv v))) else ltc S1 k)) 267 3 (nI (m + (decI v).length)), ⟨q7, k1.2.2.2.1.2⟩, gfin_lo k1.2.2.2.2⟩, fun i hi => (g1 i hi).trans (q6 i hi), g2⟩
theorem sb_appendI {n m j : Nat} {S : SS} {f : Nat → Int32} {v : Int32} (hn : 269 ≤ n) (h : SBI n S m j f) (ha : v.toInt.natAbs < 100000000) (hj7 : j ≤ 6) (hn1 : n + 1 < ab_CB) : AM yJ4_append_bf812 cJ4_append_bf812 2 (some (.object "java/lang/StringBuilder")) [] 5 (grw j (m + (decI v).length)) (grs j (m + (decI v).length)) [.ref 267, .int v] n (Hp S) (fun r n' h' => r = .inl (some (.ref 267)) ∧ ∃ S', h' = Hp S' ∧ APL n S m j f (decI v) n' S') := by
  intro has
  change WA RJ4 cJ4_append_bf812 2 [] _ _ 0 0 0 [some (.ref 267), some (.int v)] [] n _
  refine wa_aload_n dJ4_append_bf812_0 rfl ?_
  refine wa_iload_n dJ4_append_bf812_1 rfl ?_
  refine wa_callSU (As := [.int v]) dJ4_append_bf812_2 lk_J4_53_s (sb_appendI5 hn h ha hj7 hn1) (fun E n' h' q => by cases q.1) rfl (isO_SB _ _ _) rfl (Or.inl (ltS hn)) (by exact Nat.le_of_ble_eq_true rfl) (by unfold ab_fit ab_rm; refine ⟨?_, ?_, ?_, ?_⟩ <;> simp <;> omega) (by exact Nat.le_of_ble_eq_true rfl) (fun ro n' h' hq _ => ?_)
  obtain ⟨q1, S1, q2, q3⟩ := hq
  cases q1
  rw [q2]
  refine wa_pop dJ4_append_bf812_5 rfl ?_
  refine wa_aload_n dJ4_append_bf812_6 rfl ?_
  exact wa_areturn dJ4_append_bf812_7 ⟨by simp, by simp, ⟨_, rfl, Or.inl ⟨_, rfl⟩⟩, rfl, S1, rfl, q3⟩

