/-! StringBuilder: setLength(0), charAt. Written by program (wip/whole/gen/m838.py) but for the heads. -/
theorem WA.imp {own : String} {cc : ByteArray} {nL : Nat} {hh : List (Nat × Nat × Nat × Nat)} {R : Room} {Q Q' : ab_Q} {k z pc : Nat} {ls : List (Option Value)} {st : List Value} {n : Nat} {h : ab_H} (hq : ∀ r k z n h, Q r k z n h → Q' r k z n h) (hw : WA own cc nL hh R Q k z pc ls st n h) : WA own cc nL hh R Q' k z pc ls st n h := by
  intro p l e s m args below meth c base D T C0 α H L locs Fin hC hW hL hs hl hS hF hT
  exact hw p l e s m args below meth c base D T C0 α H L locs Fin hC hW hL hs hl hS (fun ro n' h' α' H' L' locs' k' z' pc' ins q => hF ro n' h' α' H' L' locs' k' z' pc' ins (hq _ _ _ _ _ q)) ⟨fun E n' h' α' H' L' locs' k' z' pc' st' q0 ce q => hT.1 E n' h' α' H' L' locs' k' z' pc' st' q0 ce (hq _ _ _ _ _ q), fun E n' h' α' H' L' locs' k' z' g q => hT.2 E n' h' α' H' L' locs' k' z' g (hq _ _ _ _ _ q)⟩
theorem AM.imp {y : MethodName} {cc : ByteArray} {maxL : Nat} {ret : Option FieldType} {hh : List (Nat × Nat × Nat × Nat)} {d mc ms : Nat} {as : List Value} {n : Nat} {h : ab_H} {Q Q' : ab_R → Nat → ab_H → Prop} (hA : AM y cc maxL ret hh d mc ms as n h Q) (hq : ∀ r n' h', Q r n' h' → Q' r n' h') : AM y cc maxL ret hh d mc ms as n h Q' :=
  fun has => WA.imp (fun r k z n' h' q => ⟨q.1, q.2.1, q.2.2.1, hq _ _ _ q.2.2.2⟩) (hA has)
theorem grw_le {j q : Nat} (h : q ≤ cpS j) : grw j q = 0 ∧ grs j q = 0 := ⟨if_pos h, if_pos h⟩
theorem sb_ensure0 {n m j q : Nat} {S : SS} {f : Nat → Int32} (hn : 279 ≤ n) (h : SBI n S m j f) (h2 : q ≤ cpS j) (hj7 : j ≤ 6) (hn1 : n + 1 < ab_CB) : AM yJ5_ensureCapacityInternal_d00df cJ5_ensureCapacityInternal_d00df 3 none [] 3 0 0 [.ref 32, .int (nI q)] n (Hp S) (fun r n' h' => r = .inl none ∧ ∃ S', h' = Hp S' ∧ n' = n ∧ FRb n S S' ∧ S'.1 32 = S.1 32 ∧ ∃ f', SBI n S' m j f' ∧ ∀ i, i < m → f' i = f i) := by
  have hz := sb_ensure hn h (q := q) (by have := (cpS_s j).1; omega) hj7 hn1
  obtain ⟨e1, e2⟩ := grw_le h2
  rw [e1, e2] at hz
  refine hz.imp (fun r n' h' q0 => ?_)
  obtain ⟨q1, S', q2, q3, q4, q5, ⟨f', q6, q7⟩, q8⟩ := q0
  rw [e1] at q3 q6
  subst q3
  exact ⟨q1, S', q2, rfl, q4, q5, f', q6, q7⟩
theorem sb_setLength5 {n m j : Nat} {S : SS} {f : Nat → Int32} (hn : 279 ≤ n) (h : SBI n S m j f) (hj7 : j ≤ 6) (hn1 : n + 1 < ab_CB) : AM yJ5_setLength_d00df cJ5_setLength_d00df 2 none [] 4 0 0 [.ref 32, .int 0] n (Hp S) (fun r n' h' => r = .inl none ∧ ∃ S', h' = Hp S' ∧ n' = n ∧ FRb n S S' ∧ ∃ f', SBI n S' 0 j f') := by
  intro has
  change WA RJ5 cJ5_setLength_d00df 2 [] _ _ 0 0 0 [some (.ref 32), some (.int 0)] [] n _
  have hj := cpS_le (j := j) (by have := h.2.2.2.1.2; omega)
  have hm := h.2.2.2.1.1
  refine wa_iload_n dJ5_setLength_d00df_0 rfl ?_
  refine wa_if_ge 13 dJ5_setLength_d00df_1 rfl (fun c1 => ?_) (fun c1 => absurd (by decide) c1)
  refine wa_aload_n dJ5_setLength_d00df_13 rfl ?_
  refine wa_iload_n dJ5_setLength_d00df_14 rfl ?_
  refine wa_callU (As := [.int 0]) dJ5_setLength_d00df_15 lk_J5_100 (sb_ensure0 (q := 0) hn h (Nat.zero_le _) hj7 hn1) (fun E n' h' q => by cases q.1) rfl (isO_SB _ _ _) rfl (Or.inl (ltS hn)) (by exact Nat.le_of_ble_eq_true rfl) (by unfold ab_fit ab_rm; refine ⟨?_, ?_, ?_, ?_⟩ <;> simp <;> omega) (by exact Nat.le_of_ble_eq_true rfl) (fun ro n' h' hq _ => ?_)
  obtain ⟨q1, S1, q2, q3, q4, q5, f1, h1, q6⟩ := hq
  rw [q2, q3]
  cases q1
  have e31 := h1.2.2.1
  refine wa_aload_n dJ5_setLength_d00df_18 rfl ?_
  refine g_SB hn 3 dJ5_setLength_d00df_19 fl_J5_79 (by decide) (v := .int (nI m)) (congrArg (fun x => some (Value.int x)) e31) ?_
  refine wa_iload_n dJ5_setLength_d00df_22 rfl ?_
  refine wa_icmp_ge 63 dJ5_setLength_d00df_23 rfl (fun c23 => ?_) (fun c23 => absurd (show nI 0 ≤ nI m from nI_leN (Nat.zero_le _) (by omega)) c23)
  refine wa_aload_n dJ5_setLength_d00df_63 rfl ?_
  refine g_SB hn 3 dJ5_setLength_d00df_64 fl_J5_79 (by decide) (v := .int (nI m)) (congrArg (fun x => some (Value.int x)) e31) ?_
  refine wa_iload_n dJ5_setLength_d00df_67 rfl ?_
  refine wa_icmp_le 76 dJ5_setLength_d00df_68 rfl (fun c68 => ?_) (fun c68 => ?_)
  · skip
    refine wa_aload_n dJ5_setLength_d00df_76 rfl ?_
    refine wa_iload_n dJ5_setLength_d00df_77 rfl ?_
    refine p_SB hn 3 dJ5_setLength_d00df_78 fl_J5_79 (by decide) rfl rfl rfl rfl (fun _ _ _ => rfl) (Nat.le_of_ble_eq_true rfl) ?_
    exact wa_return dJ5_setLength_d00df_81 ⟨by simp, by simp, rfl, rfl, _, rfl, rfl, ⟨q4.1, fun a ha => (ss_o S1 _ _ ha).trans (q4.2.1 a ha), q4.2.2⟩, f1, h1.1, h1.2.1, ss_e S1 32 3 0, ⟨Nat.zero_le _, h1.2.2.2.1.2⟩, h1.2.2.2.2⟩
  · skip
    refine wa_aload_n dJ5_setLength_d00df_71 rfl ?_
    refine wa_iconst (x := 1) dJ5_setLength_d00df_72 (by decide) ?_
    refine p_SB hn 2 dJ5_setLength_d00df_73 fl_J5_73 (by decide) rfl rfl rfl rfl (fun _ _ _ => rfl) (Nat.le_of_ble_eq_true rfl) ?_
    refine wa_aload_n dJ5_setLength_d00df_76 rfl ?_
    refine wa_iload_n dJ5_setLength_d00df_77 rfl ?_
    refine p_SB hn 3 dJ5_setLength_d00df_78 fl_J5_79 (by decide) rfl rfl rfl rfl (fun _ _ _ => rfl) (Nat.le_of_ble_eq_true rfl) ?_
    exact wa_return dJ5_setLength_d00df_81 ⟨by simp, by simp, rfl, rfl, _, rfl, rfl, ⟨q4.1, fun a ha => (ss_o _ _ _ ha).trans ((ss_o S1 _ _ ha).trans (q4.2.1 a ha)), q4.2.2⟩, f1, h1.1, h1.2.1, ss_e (ss S1 32 2 1) 32 3 0, ⟨Nat.zero_le _, h1.2.2.2.1.2⟩, h1.2.2.2.2⟩
theorem sb_setLength {n m j : Nat} {S : SS} {f : Nat → Int32} (hn : 279 ≤ n) (h : SBI n S m j f) (hj7 : j ≤ 6) (hn1 : n + 1 < ab_CB) : AM yJ4_setLength_d00df cJ4_setLength_d00df 2 none [] 5 0 0 [.ref 32, .int 0] n (Hp S) (fun r n' h' => r = .inl none ∧ ∃ S', h' = Hp S' ∧ n' = n ∧ FRb n S S' ∧ ∃ f', SBI n S' 0 j f') := by
  intro has
  change WA RJ4 cJ4_setLength_d00df 2 [] _ _ 0 0 0 [some (.ref 32), some (.int 0)] [] n _
  refine wa_aload_n dJ4_setLength_d00df_0 rfl ?_
  refine wa_iload_n dJ4_setLength_d00df_1 rfl ?_
  refine wa_callSU (As := [.int 0]) dJ4_setLength_d00df_2 lk_J4_333_s (sb_setLength5 hn h hj7 hn1) (fun E n' h' q => by cases q.1) rfl (isO_SB _ _ _) rfl (Or.inl (ltS hn)) (by exact Nat.le_of_ble_eq_true rfl) (by unfold ab_fit ab_rm; refine ⟨?_, ?_, ?_, ?_⟩ <;> simp <;> omega) (by exact Nat.le_of_ble_eq_true rfl) (fun ro n' h' hq _ => ?_)
  obtain ⟨q1, S1, q2, q3, q4⟩ := hq
  rw [q2, q3]
  cases q1
  exact wa_return dJ4_setLength_d00df_5 ⟨by simp, by simp, rfl, rfl, S1, rfl, rfl, q4⟩
theorem sb_charAt5 {n m j i : Nat} {S : SS} {f : Nat → Int32} (hn : 279 ≤ n) (h : SBI n S m j f) (hi : i < m) : AM yJ5_charAt_5068e cJ5_charAt_5068e 5 (some .char) [] 2 0 0 [.ref 32, .int (nI i)] n (Hp S) (PI (f i) n S) := by
  intro has
  change WA RJ5 cJ5_charAt_5068e 5 [] _ _ 0 0 0 [some (.ref 32), some (.int (nI i)), none, none, none] [] n _
  have hj := cpS_le (j := j) (by have := h.2.2.2.1.2; omega)
  have hm := h.2.2.2.1.1
  have e3 := h.2.2.1
  have eh := (hp_lx S h.1.1 (by have := h.1.2; omega)).trans h.2.1
  refine wa_aload_n dJ5_charAt_5068e_0 rfl ?_
  refine g_SB hn 1 dJ5_charAt_5068e_1 fl_J5_22 (by decide) rfl ?_
  refine wa_istore_n dJ5_charAt_5068e_4 rfl ?_
  refine wa_aload_n dJ5_charAt_5068e_5 rfl ?_
  refine g_SB hn 0 dJ5_charAt_5068e_6 fl_J5_15 (by decide) rfl ?_
  refine wa_astore_n dJ5_charAt_5068e_9 rfl ?_
  refine wa_aload_n dJ5_charAt_5068e_10 rfl ?_
  refine g_SB hn 3 dJ5_charAt_5068e_11 fl_J5_79 (by decide) (v := .int (nI m)) (congrArg (fun x => some (Value.int x)) e3) ?_
  refine wa_aload_n dJ5_charAt_5068e_14 rfl ?_
  refine wa_alen (t := 1) (len := cpS j) dJ5_charAt_5068e_15 (by decide) (Or.inl h.1.2.1) eh rfl ?_
  rw [show Int32.ofNat (cpS j) = nI (cpS j) from rfl]
  refine wa_iload_n dJ5_charAt_5068e_16 rfl ?_
  refine wa_ishr dJ5_charAt_5068e_17 ?_
  rw [shr0]
  refine c_SI dJ5_charAt_5068e_18 (am_min _ _) lk_J5_138 rfl ?_
  rw [min_nI (by omega) (by omega), Nat.min_eq_left (by omega)]
  refine wa_istore dJ5_charAt_5068e_21 rfl ?_
  refine wa_iload_n dJ5_charAt_5068e_23 rfl ?_
  refine wa_iload dJ5_charAt_5068e_24 rfl ?_
  refine wa_callS dJ5_charAt_5068e_26 lk_J5_144 (am_ckix hi (by omega)) rfl (by exact Nat.le_of_ble_eq_true rfl) (by unfold ab_fit ab_rm; refine ⟨?_, ?_, ?_, ?_⟩ <;> simp <;> omega) (by exact Nat.le_of_ble_eq_true rfl) (fun ro n' h' hq _ => ?_) (fun E n' h' q _ => by cases q.1)
  obtain ⟨q1, q2, q3⟩ := hq
  rw [q2, q3]
  cases q1
  refine wa_iload_n dJ5_charAt_5068e_29 rfl ?_
  refine wa_if_ne 42 dJ5_charAt_5068e_30 rfl (fun c30 => absurd rfl c30) (fun c30 => ?_)
  refine wa_aload_n dJ5_charAt_5068e_33 rfl ?_
  refine wa_iload_n dJ5_charAt_5068e_34 rfl ?_
  refine wa_bald (len := cpS j) (j := i) dJ5_charAt_5068e_35 (Or.inl h.1.2.1) eh (nI_toInt (by omega)) (by omega) ?_
  refine wa_sipush (x := 255) dJ5_charAt_5068e_36 (by decide) ?_
  refine wa_iand dJ5_charAt_5068e_39 ?_
  refine wa_i2c dJ5_charAt_5068e_40 ?_
  have ec : ((f i &&& 255).toUInt32 % 65536).toInt32 = f i := chr_lo (h.2.2.2.2 i).1 (h.2.2.2.2 i).2
  have en := chr_ok (f i)
  unfold chr at en
  rw [ec] at en ⊢
  exact wa_ireturn dJ5_charAt_5068e_41 ⟨by simp, by simp, ⟨_, rfl, en⟩, rfl, rfl, rfl⟩
theorem sb_charAt {n m j i : Nat} {S : SS} {f : Nat → Int32} (hn : 279 ≤ n) (h : SBI n S m j f) (hi : i < m) : AM yJ4_charAt_5068e cJ4_charAt_5068e 2 (some .char) [] 3 0 0 [.ref 32, .int (nI i)] n (Hp S) (PI (f i) n S) := by
  intro has
  change WA RJ4 cJ4_charAt_5068e 2 [] _ _ 0 0 0 [some (.ref 32), some (.int (nI i))] [] n _
  refine wa_aload_n dJ4_charAt_5068e_0 rfl ?_
  refine wa_iload_n dJ4_charAt_5068e_1 rfl ?_
  have en := chr_ok (f i)
  rw [chr_lo (h.2.2.2.2 i).1 (h.2.2.2.2 i).2] at en
  refine wa_callSU (As := [.int (nI i)]) dJ4_charAt_5068e_2 lk_J4_329_s (sb_charAt5 hn h hi) (fun E n' h' q => by cases q.1) rfl (isO_SB _ _ _) rfl (Or.inl (ltS hn)) (by exact Nat.le_of_ble_eq_true rfl) (by unfold ab_fit ab_rm; refine ⟨?_, ?_, ?_, ?_⟩ <;> simp <;> omega) (by exact Nat.le_of_ble_eq_true rfl) (fun ro n' h' hq _ => ?_)
  obtain ⟨q1, q2, q3⟩ := hq
  rw [q2, q3]
  cases q1
  exact wa_ireturn dJ4_charAt_5068e_5 ⟨by simp, by simp, ⟨_, rfl, en⟩, rfl, rfl, rfl⟩
