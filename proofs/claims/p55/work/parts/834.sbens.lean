/-! StringBuilder: ensureCapacityInternal, append of a letter, length, setLength(0). Written by program (wip/whole/gen/m834.py) but for the heads. -/
theorem p_sbval {own : String} {cc : ByteArray} {nL : Nat} {hh : List (Nat × Nat × Nat × Nat)} {R : Room} {Q : ab_Q} {k z pc : Nat} {ls : List (Option Value)} {st : List Value} {n a index : Nat} {S : SS} (hn : 269 ≤ n) (d : decode cc pc = .ok (.putfield index, 3)) (fl : Cond.fieldLink own index (TJ4 0).1 (TJ4 0).2.1 (TJ4 0).2.2.1 ∈ ab_big) (K : WA own cc nL hh R Q k z (pc + 3) ls st n (Hp (sbs S a))) : WA own cc nL hh R Q k z pc ls (.ref a :: .ref 267 :: st) n (Hp S) := by
  refine wa_putf (v := .ref a) (ty := .array .byte) 0 tyJ4 d fl cl_SB.1 cl_SB.2.1 cl_SB.2.2.1 cl_SB.2.2.2 (by decide) rfl rfl (fun _ => rfl) (fun _ => rfl) (ltS hn) (isO_SB _ _ _) (Nat.le_of_ble_eq_true rfl) ?_
  have e := hp_sbs S a
  rw [← e] at K
  exact K
/-- what makes room leaves -/
def ENS (n : Nat) (S : SS) (m j q : Nat) (f : Nat → Int32) (n' : Nat) (S' : SS) : Prop := n' = n + grw j q ∧ FRb n S S' ∧ S'.1 267 = S.1 267 ∧ (∃ f', SBI n' S' m (j + grw j q) f' ∧ ∀ i, i < m → f' i = f i) ∧ q ≤ cpS (j + grw j q)
theorem sub_le0 {a b : Nat} (h : a ≤ b) (hb : b < 1000000) : nI a - nI b ≤ 0 := by
  rw [Int32.le_iff_toInt_le, Int32.toInt_sub, nI_toInt (by omega), nI_toInt (by omega), Int.bmod_eq_of_le (by omega) (by omega), Int32.toInt_zero]
  omega
theorem sb_ensure {n m j q : Nat} {S : SS} {f : Nat → Int32} (hn : 269 ≤ n) (h : SBI n S m j f) (h2 : q ≤ cpS (j + 1)) (hj7 : j ≤ 6) (hn1 : n + 1 < ab_CB) : AM yJ5_ensureCapacityInternal_d00df cJ5_ensureCapacityInternal_d00df 3 none [] 3 (grw j q) (grs j q) [.ref 267, .int (nI q)] n (Hp S) (fun r n' h' => r = .inl none ∧ ∃ S', h' = Hp S' ∧ ENS n S m j q f n' S') := by
  intro has
  change WA RJ5 cJ5_ensureCapacityInternal_d00df 3 [] _ _ 0 0 0 [some (.ref 267), some (.int (nI q)), none] [] n _
  have hj := cpS_le (j := j) (by have := h.2.2.2.1.2; omega)
  obtain ⟨hs, h16⟩ := cpS_s j
  by_cases hq : q ≤ cpS j
  · have e0 : grw j q = 0 := if_pos hq
    have e1 : grs j q = 0 := if_pos hq
    rw [e0, e1]
    refine wa_aload_n dJ5_ensureCapacityInternal_d00df_0 rfl ?_
    refine g_SB hn 0 dJ5_ensureCapacityInternal_d00df_1 fl_J5_15 (by decide) rfl ?_
    refine wa_alen (t := 1) (len := cpS j) dJ5_ensureCapacityInternal_d00df_4 (by decide) (Or.inl h.1.2.1) ((hp_lx S h.1.1 (by have := h.1.2; omega)).trans h.2.1) rfl ?_
    rw [show Int32.ofNat (cpS j) = nI (cpS j) from rfl]
    refine wa_aload_n dJ5_ensureCapacityInternal_d00df_5 rfl ?_
    refine g_SB hn 1 dJ5_ensureCapacityInternal_d00df_6 fl_J5_22 (by decide) rfl ?_
    refine wa_ishr dJ5_ensureCapacityInternal_d00df_9 ?_
    rw [shr0]
    refine wa_istore_n dJ5_ensureCapacityInternal_d00df_10 rfl ?_
    refine wa_iload_n dJ5_ensureCapacityInternal_d00df_11 rfl ?_
    refine wa_iload_n dJ5_ensureCapacityInternal_d00df_12 rfl ?_
    refine wa_isub dJ5_ensureCapacityInternal_d00df_13 ?_
    refine wa_if_le 38 dJ5_ensureCapacityInternal_d00df_14 rfl (fun c14 => ?_) (fun c14 => absurd (sub_le0 hq (by omega)) c14)
    exact wa_return dJ5_ensureCapacityInternal_d00df_38 ⟨Nat.le_refl _, Nat.le_refl _, rfl, rfl, S, rfl, (by rw [e0]; rfl), FRb.rf, rfl, ⟨f, by rw [e0]; exact h, fun _ _ => rfl⟩, by rw [e0]; exact hq⟩
  have e0 : grw j q = 1 := if_neg hq
  have e1 : grs j q = cpS (j + 1) := if_neg hq
  rw [e0, e1]
  refine wa_aload_n dJ5_ensureCapacityInternal_d00df_0 rfl ?_
  refine g_SB hn 0 dJ5_ensureCapacityInternal_d00df_1 fl_J5_15 (by decide) rfl ?_
  refine wa_alen (t := 1) (len := cpS j) dJ5_ensureCapacityInternal_d00df_4 (by decide) (Or.inl h.1.2.1) ((hp_lx S h.1.1 (by have := h.1.2; omega)).trans h.2.1) rfl ?_
  rw [show Int32.ofNat (cpS j) = nI (cpS j) from rfl]
  refine wa_aload_n dJ5_ensureCapacityInternal_d00df_5 rfl ?_
  refine g_SB hn 1 dJ5_ensureCapacityInternal_d00df_6 fl_J5_22 (by decide) rfl ?_
  refine wa_ishr dJ5_ensureCapacityInternal_d00df_9 ?_
  rw [shr0]
  refine wa_istore_n dJ5_ensureCapacityInternal_d00df_10 rfl ?_
  refine wa_iload_n dJ5_ensureCapacityInternal_d00df_11 rfl ?_
  refine wa_iload_n dJ5_ensureCapacityInternal_d00df_12 rfl ?_
  refine wa_isub dJ5_ensureCapacityInternal_d00df_13 ?_
  rw [nI_sub (by omega)]
  refine wa_if_le 38 dJ5_ensureCapacityInternal_d00df_14 rfl (fun c14 => absurd c14 (Int32.not_le.mpr (show nI 0 < nI (q - cpS j) from nI_lt (by omega) (by omega)))) (fun c14 => ?_)
  refine wa_aload_n dJ5_ensureCapacityInternal_d00df_17 rfl ?_
  refine wa_aload_n dJ5_ensureCapacityInternal_d00df_18 rfl ?_
  refine g_SB hn 0 dJ5_ensureCapacityInternal_d00df_19 fl_J5_15 (by decide) rfl ?_
  refine wa_aload_n dJ5_ensureCapacityInternal_d00df_22 rfl ?_
  refine wa_iload_n dJ5_ensureCapacityInternal_d00df_23 rfl ?_
  refine wa_callU (As := [.int (nI q)]) dJ5_ensureCapacityInternal_d00df_24 lk_J5_104 (sb_newCapacity hn h (by omega) h2) (fun E n' h' q => by cases q.1) rfl (isO_SB _ _ _) rfl (Or.inl (ltS hn)) (by exact Nat.le_of_ble_eq_true rfl) (by unfold ab_fit ab_rm; refine ⟨?_, ?_, ?_, ?_⟩ <;> simp <;> omega) (by exact Nat.le_of_ble_eq_true rfl) (fun ro n' h' hq _ => ?_)
  obtain ⟨q1, q2, q3⟩ := hq
  rw [q2, q3]
  cases q1
  refine wa_aload_n dJ5_ensureCapacityInternal_d00df_27 rfl ?_
  refine g_SB hn 1 dJ5_ensureCapacityInternal_d00df_28 fl_J5_22 (by decide) rfl ?_
  refine wa_ishl dJ5_ensureCapacityInternal_d00df_31 ?_
  rw [shl0]
  refine wa_callS dJ5_ensureCapacityInternal_d00df_32 lk_J5_108 (js_copyOf h.1.2.1 ((hp_lx S h.1.1 (by have := h.1.2; omega)).trans h.2.1) (by omega) (by omega) hn1 h.2.2.2.2) rfl (by exact Nat.le_of_ble_eq_true rfl) (by unfold ab_fit ab_rm; refine ⟨?_, ?_, ?_, ?_⟩ <;> simp <;> omega) (by exact Nat.le_of_ble_eq_true rfl) (fun ro n' h' hq _ => ?_) (fun E n' h' q _ => by cases q.1)
  obtain ⟨q1, q2, q3⟩ := hq
  rw [q2, q3]
  cases q1
  rw [hp_slx (Or.inr hn) (by omega)]
  refine p_sbval (by omega) dJ5_ensureCapacityInternal_d00df_35 fl_J5_15 ?_
  exact wa_return dJ5_ensureCapacityInternal_d00df_38 ⟨by simp, by simp, rfl, rfl, _, rfl, by rw [e0], ⟨⟨rfl, rfl, rfl, rfl, Or.inr (Nat.le_refl _), fun k hk hs => if_neg (by omega)⟩, fun _ _ => rfl, rfl⟩, rfl, ⟨fun i => if i < cpS j then f i else 0, ⟨⟨Or.inr hn, Nat.lt_succ_self _, by omega⟩, by rw [e0]; exact if_pos rfl, h.2.2.1, ⟨by rw [e0]; have := h.2.2.2.1.1; omega, by rw [e0]; omega⟩, fun i => by
    dsimp only
    by_cases hi : i < cpS j
    · rw [if_pos hi]; exact h.2.2.2.2 i
    · rw [if_neg hi]; decide⟩, fun i hi => if_pos (by have := h.2.2.2.1.1; omega)⟩, by rw [e0]; exact h2⟩

