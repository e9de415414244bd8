/-! StringBuilder: append of a letter, length, setLength(0), charAt. Written by program (wip/whole/gen/m836.py) but for the heads. -/
theorem p_SB {own : String} {cc : ByteArray} {nL : Nat} {hh : List (Nat × Nat × Nat × Nat)} {R : Room} {Q : ab_Q} {k z pc : Nat} {ls : List (Option Value)} {st : List Value} {n index : Nat} {S : SS} {x : Int32} {ty : FieldType} (hn : 269 ≤ n) (kf : Nat) (d : decode cc pc = .ok (.putfield index, 3)) (fl : Cond.fieldLink own index (TJ4 kf).1 (TJ4 kf).2.1 (TJ4 kf).2.2.1 ∈ ab_big) (hk : kf < 4) (hfin : (TJ4 kf).2.2.2 = false) (hd : parseFieldDescriptor (TJ4 kf).2.2.1 = some ty) (hnr : narrow ty (.int x) = .int x) (hfit : fits ty (.int x) = true)
    (hset : ∀ f w Rr, (ly_SB f w Rr).set kf (.int x) = ly_SB (upd f kf x) w Rr) (hlen : kf < (ly_SB (S.1 267) (S.2.1 267) S.2.2).length) (K : WA own cc nL hh R Q k z (pc + 3) ls st n (Hp (ss S 267 kf x))) : WA own cc nL hh R Q k z pc ls (.int x :: .ref 267 :: st) n (Hp S) := s_puti cl_SB isO_SB kf d fl (ltS hn) hk hfin hd hnr hfit hset hlen K
theorem lo_upd {f : Nat → Int32} {m : Nat} {x : Int32} (h : ∀ i, 0 ≤ (f i).toInt ∧ (f i).toInt < 128) (hx : 0 ≤ x.toInt ∧ x.toInt < 128) : ∀ i, 0 ≤ (upd f m x i).toInt ∧ (upd f m x i).toInt < 128 := fun i => by
  by_cases hi : i = m
  · subst hi
    rw [upd_e]
    exact hx
  · rw [upd_o hi]
    exact h i
theorem i2b_lo {x : Int32} (h : 0 ≤ x.toInt ∧ x.toInt < 128) : x.toInt8.toInt32 = x := by
  obtain ⟨e, -⟩ := nI_of_nn h.1
  rw [e]
  exact (by decide : ∀ k, k < 128 → (nI k).toInt8.toInt32 = nI k) _ (by omega)
/-- what an appended letter leaves -/
def APC (n : Nat) (S : SS) (m j : Nat) (f : Nat → Int32) (x : Int32) (n' : Nat) (S' : SS) : Prop := n' = n + grw j (m + 1) ∧ FRb n S S' ∧ ∃ f', SBI n' S' (m + 1) (j + grw j (m + 1)) f' ∧ (∀ i, i < m → f' i = f i) ∧ f' m = x
theorem sb_appendC5 {n m j : Nat} {S : SS} {f : Nat → Int32} {x : Int32} (hn : 269 ≤ n) (h : SBI n S m j f) (hj7 : j ≤ 6) (hn1 : n + 1 < ab_CB) (hx : 0 ≤ x.toInt ∧ x.toInt < 128) : AM yJ5_append_3fe6f cJ5_append_3fe6f 2 (some (.object "java/lang/AbstractStringBuilder")) [] 4 (grw j (m + 1)) (grs j (m + 1)) [.ref 267, .int x] n (Hp S) (fun r n' h' => r = .inl (some (.ref 267)) ∧ ∃ S', h' = Hp S' ∧ APC n S m j f x n' S') := by
  intro has
  change WA RJ5 cJ5_append_3fe6f 2 [] _ _ 0 0 0 [some (.ref 267), some (.int x)] [] n _
  have e3 := h.2.2.1
  have hj := cpS_le (j := j) (by have := h.2.2.2.1.2; omega)
  have hm := h.2.2.2.1.1
  obtain ⟨hs, h16⟩ := cpS_s j
  have hx255 : x ≤ 255 := by
    rw [Int32.le_iff_toInt_le]
    have : (255 : Int32).toInt = 255 := by decide
    omega
  refine wa_aload_n dJ5_append_3fe6f_0 rfl ?_
  refine wa_aload_n dJ5_append_3fe6f_1 rfl ?_
  refine g_SB hn 3 dJ5_append_3fe6f_2 fl_J5_79 (by decide) (v := .int (nI m)) (congrArg (fun x => some (Value.int x)) e3) ?_
  refine wa_iconst (x := 1) dJ5_append_3fe6f_5 (by decide) ?_
  refine wa_iadd dJ5_append_3fe6f_6 ?_
  rw [nI_1 m]
  refine wa_callU (As := [.int (nI (m + 1))]) dJ5_append_3fe6f_7 lk_J5_100 (sb_ensure hn h (by omega) hj7 hn1) (fun E n' h' q => by cases q.1) rfl (isO_SB _ _ _) rfl (Or.inl (ltS hn)) (by exact Nat.le_of_ble_eq_true rfl) (by unfold ab_fit ab_rm; refine ⟨?_, ?_, ?_, ?_⟩ <;> simp <;> omega) (by exact Nat.le_of_ble_eq_true rfl) (fun ro n' h' hq _ => ?_)
  obtain ⟨q1, S1, q2, q3, q4, q5, ⟨f1, h1, q6⟩, q7⟩ := hq
  subst q3
  rw [q2]
  cases q1
  have hn' : 269 ≤ n + grw j (m + 1) := by omega
  have e31 := h1.2.2.1
  refine wa_aload_n dJ5_append_3fe6f_10 rfl ?_
  refine wa_callU (As := []) dJ5_append_3fe6f_11 lk_J5_83 (sb_isLatin1 hn') (fun E n' h' q => by cases q.1) rfl (isO_SB _ _ _) rfl (Or.inl (ltS hn')) (by exact Nat.le_of_ble_eq_true rfl) (by unfold ab_fit ab_rm; refine ⟨?_, ?_, ?_, ?_⟩ <;> simp <;> omega) (by exact Nat.le_of_ble_eq_true rfl) (fun ro n' h' hq _ => ?_)
  obtain ⟨q1, q2, q3⟩ := hq
  rw [q2, q3]
  cases q1
  refine wa_if_eq 45 dJ5_append_3fe6f_14 rfl (fun c14 => absurd c14 (by decide)) (fun c14 => ?_)
  refine wa_iload_n dJ5_append_3fe6f_17 rfl ?_
  refine c_SAh dJ5_append_3fe6f_18 (js_canEncode hx255) lk_J5_191 rfl ?_
  refine wa_if_eq 45 dJ5_append_3fe6f_21 rfl (fun c21 => absurd c21 (by decide)) (fun c21 => ?_)
  refine wa_aload_n dJ5_append_3fe6f_24 rfl ?_
  refine g_SB hn' 0 dJ5_append_3fe6f_25 fl_J5_15 (by decide) rfl ?_
  refine wa_aload_n dJ5_append_3fe6f_28 rfl ?_
  refine wa_dup dJ5_append_3fe6f_29 rfl ?_
  refine g_SB hn' 3 dJ5_append_3fe6f_30 fl_J5_79 (by decide) (v := .int (nI m)) (congrArg (fun x => some (Value.int x)) e31) ?_
  refine wa_dup_x1 dJ5_append_3fe6f_33 rfl rfl ?_
  refine wa_iconst (x := 1) dJ5_append_3fe6f_34 (by decide) ?_
  refine wa_iadd dJ5_append_3fe6f_35 ?_
  rw [nI_1 m]
  refine p_SB hn' 3 dJ5_append_3fe6f_36 fl_J5_79 (by decide) rfl rfl rfl rfl (fun _ _ _ => rfl) (Nat.le_of_ble_eq_true rfl) ?_
  refine wa_iload_n dJ5_append_3fe6f_39 rfl ?_
  refine wa_i2b dJ5_append_3fe6f_40 ?_
  refine wa_bast (len := cpS (j + grw j (m + 1))) (j := m) dJ5_append_3fe6f_41 h1.1.2.1 ((hp_lx (ss S1 267 3 (nI (m + 1))) h1.1.1 (by have := h1.1.2; omega)).trans h1.2.1) (nI_toInt (by omega)) (by omega) ?_
  rw [show S1.2.2.2.2.2.1 = sbr S1 from rfl, hp_slx (S := ss S1 267 3 (nI (m + 1))) h1.1.1 (by have := h1.1.2; omega), i2b_lo hx, (fits_b hx).2]
  refine wa_goto 75 dJ5_append_3fe6f_42 rfl ?_
  refine wa_aload_n dJ5_append_3fe6f_75 rfl ?_
  exact wa_areturn dJ5_append_3fe6f_76 ⟨by simp, by simp, ⟨_, rfl, Or.inl ⟨_, rfl⟩⟩, rfl, _, rfl, rfl, ⟨⟨q4.1.1, q4.1.2.1, q4.1.2.2.1, q4.1.2.2.2.1, q4.1.2.2.2.2.1, fun k hk hs => (if_neg (fun z => by have := q4.1.2.2.2.2.1; have e9 : sbr (ss S1 267 3 (nI (m + 1))) = sbr S1 := rfl; omega)).trans (q4.1.2.2.2.2.2 k hk hs)⟩, fun a ha => (ss_o S1 _ _ ha).trans (q4.2.1 a ha), q4.2.2⟩, upd f1 m x, ⟨h1.1, if_pos rfl, ss_e S1 267 3 (nI (m + 1)), ⟨q7, h1.2.2.2.1.2⟩, lo_upd h1.2.2.2.2 hx⟩, fun i hi => (upd_o (by omega)).trans (q6 i hi), upd_e⟩
theorem sb_appendC {n m j : Nat} {S : SS} {f : Nat → Int32} {x : Int32} (hn : 269 ≤ n) (h : SBI n S m j f) (hj7 : j ≤ 6) (hn1 : n + 1 < ab_CB) (hx : 0 ≤ x.toInt ∧ x.toInt < 128) : AM yJ4_append_cf468 cJ4_append_cf468 2 (some (.object "java/lang/StringBuilder")) [] 5 (grw j (m + 1)) (grs j (m + 1)) [.ref 267, .int x] n (Hp S) (fun r n' h' => r = .inl (some (.ref 267)) ∧ ∃ S', h' = Hp S' ∧ APC n S m j f x n' S') := by
  intro has
  change WA RJ4 cJ4_append_cf468 2 [] _ _ 0 0 0 [some (.ref 267), some (.int x)] [] n _
  refine wa_aload_n dJ4_append_cf468_0 rfl ?_
  refine wa_iload_n dJ4_append_cf468_1 rfl ?_
  refine wa_callSU (As := [.int x]) dJ4_append_cf468_2 lk_J4_50_s (sb_appendC5 hn h hj7 hn1 hx) (fun E n' h' q => by cases q.1) rfl (isO_SB _ _ _) rfl (Or.inl (ltS hn)) (by exact Nat.le_of_ble_eq_true rfl) (by unfold ab_fit ab_rm; refine ⟨?_, ?_, ?_, ?_⟩ <;> simp <;> omega) (by exact Nat.le_of_ble_eq_true rfl) (fun ro n' h' hq _ => ?_)
  obtain ⟨q1, S1, q2, q3⟩ := hq
  cases q1
  rw [q2]
  refine wa_pop dJ4_append_cf468_5 rfl ?_
  refine wa_aload_n dJ4_append_cf468_6 rfl ?_
  exact wa_areturn dJ4_append_cf468_7 ⟨by simp, by simp, ⟨_, rfl, Or.inl ⟨_, rfl⟩⟩, rfl, S1, rfl, q3⟩
theorem sb_length5 {n m : Nat} {S : SS} (hn : 269 ≤ n) (e3 : S.1 267 3 = nI m) : AM yJ5_length_8abf5 cJ5_length_8abf5 1 (some .int) [] 0 0 0 [.ref 267] n (Hp S) (PI (nI m) n S) := by
  intro has
  change WA RJ5 cJ5_length_8abf5 1 [] _ _ 0 0 0 [some (.ref 267)] [] n _
  refine wa_aload_n dJ5_length_8abf5_0 rfl ?_
  refine g_SB hn 3 dJ5_length_8abf5_1 fl_J5_79 (by decide) (v := .int (nI m)) (congrArg (fun x => some (Value.int x)) e3) ?_
  exact wa_ireturn dJ5_length_8abf5_4 ⟨Nat.le_refl _, Nat.le_refl _, ⟨_, rfl, rfl⟩, rfl, rfl, rfl⟩
theorem sb_length {n m : Nat} {S : SS} (hn : 269 ≤ n) (e3 : S.1 267 3 = nI m) : AM yJ4_length_8abf5 cJ4_length_8abf5 1 (some .int) [] 1 0 0 [.ref 267] n (Hp S) (PI (nI m) n S) := by
  intro has
  change WA RJ4 cJ4_length_8abf5 1 [] _ _ 0 0 0 [some (.ref 267)] [] n _
  refine wa_aload_n dJ4_length_8abf5_0 rfl ?_
  refine wa_callSU (As := []) dJ4_length_8abf5_1 lk_J4_343_s (sb_length5 hn e3) (fun E n' h' q => by cases q.1) rfl (isO_SB _ _ _) rfl (Or.inl (ltS hn)) (by exact Nat.le_of_ble_eq_true rfl) (by unfold ab_fit ab_rm; refine ⟨?_, ?_, ?_, ?_⟩ <;> simp <;> omega) (by exact Nat.le_of_ble_eq_true rfl) (fun ro n' h' hq _ => ?_)
  obtain ⟨q1, q2, q3⟩ := hq
  rw [q2, q3]
  cases q1
  exact wa_ireturn dJ4_length_8abf5_4 ⟨Nat.le_refl _, Nat.le_refl _, ⟨_, rfl, rfl⟩, rfl, rfl, rfl⟩

