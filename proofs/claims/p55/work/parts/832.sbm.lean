/-! StringBuilder: isLatin1, newLength, newCapacity, copyOf. Written by program (wip/whole/gen/m832.py) but for the heads. -/
theorem sb_isLatin1 {n : Nat} {S : SS} (hn : 269 ≤ n) : AM yJ5_isLatin1_aae02 cJ5_isLatin1_aae02 1 (some .boolean) [] 0 0 0 [.ref 267] n (Hp S) (PI 1 n S) := by
  intro has
  change WA RJ5 cJ5_isLatin1_aae02 1 [] _ _ 0 0 0 [some (.ref 267)] [] n _
  refine wa_gets dJ5_isLatin1_aae02_0 (v := .int 1) List.mem_cons_self fl_J5_18 trivial ?_
  refine wa_if_eq 17 dJ5_isLatin1_aae02_3 rfl (fun c3 => absurd c3 (by decide)) (fun c3 => ?_)
  refine wa_aload_n dJ5_isLatin1_aae02_6 rfl ?_
  refine g_SB hn 1 dJ5_isLatin1_aae02_7 fl_J5_22 (by decide) rfl ?_
  refine wa_if_ne 17 dJ5_isLatin1_aae02_10 rfl (fun c10 => absurd rfl c10) (fun c10 => ?_)
  refine wa_iconst (x := 1) dJ5_isLatin1_aae02_13 (by decide) ?_
  refine wa_goto 18 dJ5_isLatin1_aae02_14 rfl ?_
  exact wa_ireturn dJ5_isLatin1_aae02_18 ⟨Nat.le_refl _, Nat.le_refl _, ⟨_, rfl, rfl⟩, rfl, rfl, rfl⟩
theorem js_canEncode {n : Nat} {h : ab_H} {x : Int32} (hx : x ≤ 255) : AM yJ1_canEncode_fc78d cJ1_canEncode_fc78d 1 (some .boolean) [] 0 0 0 [.int x] n h (PAh (.int 1) n h) := by
  intro has
  change WA RJ1 cJ1_canEncode_fc78d 1 [] _ _ 0 0 0 [some (.int x)] [] n _
  refine wa_iload_n dJ1_canEncode_fc78d_0 rfl ?_
  refine wa_sipush (x := 255) dJ1_canEncode_fc78d_1 (by decide) ?_
  refine wa_icmp_gt 11 dJ1_canEncode_fc78d_4 rfl (fun c4 => absurd hx (Int32.not_le.mpr c4)) (fun c4 => ?_)
  refine wa_iconst (x := 1) dJ1_canEncode_fc78d_7 (by decide) ?_
  refine wa_goto 12 dJ1_canEncode_fc78d_8 rfl ?_
  exact wa_ireturn dJ1_canEncode_fc78d_12 ⟨Nat.le_refl _, Nat.le_refl _, ⟨_, rfl, rfl⟩, rfl, rfl, rfl⟩
theorem nI_addS (a b : Nat) : nI a + nI b = nI (a + b) := (Int32.ofNat_add a b).symm
theorem shl0 (x : Int32) : x <<< ((0 : Int32) &&& 31) = x := by
  rw [show (0 : Int32) &&& 31 = 0 from by decide]
  exact Int32.shiftLeft_zero
theorem max_nI {a b : Nat} (ha : a < 2 ^ 31) (hb : b < 2 ^ 31) : i_max (nI a) (nI b) = nI (max a b) := by
  unfold i_max
  by_cases h : a < b
  · rw [if_pos (nI_lt h hb), Nat.max_eq_right (by omega)]
  · rw [if_neg (fun z => h (by
      have := Int32.lt_iff_toInt_lt.mp z
      rw [nI_toInt ha, nI_toInt hb] at this
      omega)), Nat.max_eq_left (by omega)]
theorem js_newLength {n a g q : Nat} {h : ab_H} (h1 : a < 1000000) (h2 : g < 1000000) (h3 : q < 1000000) (h0 : 0 < a + max g q) : AM yJ8_newLength_cabcc cJ8_newLength_cabcc 4 (some .int) [] 1 0 0 [.int (nI a), .int (nI g), .int (nI q)] n h (PAh (.int (nI (a + max g q))) n h) := by
  intro has
  change WA RJ8 cJ8_newLength_cabcc 4 [] _ _ 0 0 0 [some (.int (nI a)), some (.int (nI g)), some (.int (nI q)), none] [] n _
  refine wa_iload_n dJ8_newLength_cabcc_0 rfl ?_
  refine wa_iload_n dJ8_newLength_cabcc_1 rfl ?_
  refine wa_iload_n dJ8_newLength_cabcc_2 rfl ?_
  refine c_SI dJ8_newLength_cabcc_3 (am_max _ _) lk_J8_194 rfl ?_
  rw [max_nI (by omega) (by omega)]
  refine wa_iadd dJ8_newLength_cabcc_6 ?_
  rw [nI_addS]
  have h9 : max g q < 1000000 := by omega
  refine wa_istore_n dJ8_newLength_cabcc_7 rfl ?_
  refine wa_iconst (x := 0) dJ8_newLength_cabcc_8 (by decide) ?_
  refine wa_iload_n dJ8_newLength_cabcc_9 rfl ?_
  refine wa_icmp_ge 21 dJ8_newLength_cabcc_10 rfl (fun c10 => absurd (show nI (a + max g q) ≤ nI 0 from c10) (Int32.not_le.mpr (nI_lt h0 (by omega)))) (fun c10 => ?_)
  refine wa_iload_n dJ8_newLength_cabcc_13 rfl ?_
  refine wa_ldc dJ8_newLength_cabcc_14 wv_J8_200 ?_
  refine wa_icmp_gt 21 dJ8_newLength_cabcc_16 rfl (fun c16 => absurd c16 (Int32.lt_asymm (show nI (a + max g q) < nI 2147483639 from nI_lt (by omega) (by decide)))) (fun c16 => ?_)
  refine wa_iload_n dJ8_newLength_cabcc_19 rfl ?_
  exact wa_ireturn dJ8_newLength_cabcc_20 ⟨Nat.le_refl _, Nat.le_refl _, ⟨_, rfl, rfl⟩, rfl, rfl, rfl⟩
theorem sb_newCapacity {n m j q : Nat} {S : SS} {f : Nat → Int32} (hn : 269 ≤ n) (h : SBI n S m j f) (h1 : cpS j < q) (h2 : q ≤ cpS (j + 1)) : AM yJ5_newCapacity_0f7a4 cJ5_newCapacity_0f7a4 6 (some .int) [] 2 0 0 [.ref 267, .int (nI q)] n (Hp S) (PI (nI (cpS (j + 1))) n S) := by
  intro has
  change WA RJ5 cJ5_newCapacity_0f7a4 6 [] _ _ 0 0 0 [some (.ref 267), some (.int (nI q)), none, none, none, none] [] n _
  have hj := cpS_le (j := j) (by have := h.2.2.2.1.2; omega)
  obtain ⟨hs, h16⟩ := cpS_s j
  have hz : max (q - cpS j) (cpS j + 2) = cpS j + 2 := by omega
  refine wa_aload_n dJ5_newCapacity_0f7a4_0 rfl ?_
  refine g_SB hn 0 dJ5_newCapacity_0f7a4_1 fl_J5_15 (by decide) rfl ?_
  refine wa_alen (t := 1) (len := cpS j) dJ5_newCapacity_0f7a4_4 (by decide) (Or.inl h.1.2.1) ((hp_lx S h.1.1 (by have := h.1.2; omega)).trans h.2.1) rfl ?_
  rw [show Int32.ofNat (cpS j) = nI (cpS j) from rfl]
  refine wa_istore_n dJ5_newCapacity_0f7a4_5 rfl ?_
  refine wa_iload_n dJ5_newCapacity_0f7a4_6 rfl ?_
  refine wa_aload_n dJ5_newCapacity_0f7a4_7 rfl ?_
  refine g_SB hn 1 dJ5_newCapacity_0f7a4_8 fl_J5_22 (by decide) rfl ?_
  refine wa_ishl dJ5_newCapacity_0f7a4_11 ?_
  rw [shl0]
  refine wa_istore_n dJ5_newCapacity_0f7a4_12 rfl ?_
  refine wa_iload_n dJ5_newCapacity_0f7a4_13 rfl ?_
  refine wa_iload_n dJ5_newCapacity_0f7a4_14 rfl ?_
  refine wa_isub dJ5_newCapacity_0f7a4_15 ?_
  rw [nI_sub (by omega)]
  refine wa_istore dJ5_newCapacity_0f7a4_16 rfl ?_
  refine wa_iload_n dJ5_newCapacity_0f7a4_18 rfl ?_
  refine wa_iload dJ5_newCapacity_0f7a4_19 rfl ?_
  refine wa_iload_n dJ5_newCapacity_0f7a4_21 rfl ?_
  refine wa_iconst (x := 2) dJ5_newCapacity_0f7a4_22 (by decide) ?_
  refine wa_aload_n dJ5_newCapacity_0f7a4_23 rfl ?_
  refine g_SB hn 1 dJ5_newCapacity_0f7a4_24 fl_J5_22 (by decide) rfl ?_
  refine wa_ishl dJ5_newCapacity_0f7a4_27 ?_
  rw [shl0]
  refine wa_iadd dJ5_newCapacity_0f7a4_28 ?_
  rw [show nI (cpS j) + 2 = nI (cpS j + 2) from nI_addS _ 2]
  refine c_SAh dJ5_newCapacity_0f7a4_29 (js_newLength (by omega) (by omega) (by omega) (by omega)) lk_J5_114 rfl ?_
  rw [hz, show cpS j + (cpS j + 2) = cpS (j + 1) by omega]
  refine wa_istore dJ5_newCapacity_0f7a4_32 rfl ?_
  refine wa_iload dJ5_newCapacity_0f7a4_34 rfl ?_
  refine wa_ldc dJ5_newCapacity_0f7a4_36 wv_J5_39 ?_
  refine wa_icmp_ne 51 dJ5_newCapacity_0f7a4_38 rfl (fun c38 => ?_) (fun c38 => absurd (nI_inj (a := cpS (j + 1)) (b := 2147483647) (by omega) (by decide) c38) (by omega))
  refine wa_iload dJ5_newCapacity_0f7a4_51 rfl ?_
  refine wa_aload_n dJ5_newCapacity_0f7a4_53 rfl ?_
  refine g_SB hn 1 dJ5_newCapacity_0f7a4_54 fl_J5_22 (by decide) rfl ?_
  refine wa_ishr dJ5_newCapacity_0f7a4_57 ?_
  rw [shr0]
  exact wa_ireturn dJ5_newCapacity_0f7a4_58 ⟨Nat.le_refl _, Nat.le_refl _, ⟨_, rfl, rfl⟩, rfl, rfl, rfl⟩
section CA
variable {own : String} {cc : ByteArray} {nL : Nat} {hh : List (Nat × Nat × Nat × Nat)} {R : Room} {Q : ab_Q} {k z pc : Nat} {ls : List (Option Value)} {st : List Value} {n : Nat} {h : ab_H}
theorem wa_newB {x : Int32} {len : Nat} (d : decode cc pc = .ok (.newarray .byte, 2)) (hx : x.toInt = (len : Int)) (hb : len ≤ 536870912) (hn1 : n + 1 < ab_CB) (hcells : k + 1 ≤ R.cells) (hslots : z + len ≤ R.slots) (K : WA own cc nL hh R Q (k + 1) (z + len) (pc + 2) ls (.ref n :: st) (n + 1) (ab_up h n (.inl (1, len, .inl (fun _ => 0))))) : WA own cc nL hh R Q k z pc ls (.int x :: st) n h :=
  wa_newa (ty := .byte) (t := 1) (a0 := (len, .inl (fun _ => 0))) d wa_cls_byte rfl rfl (by decide) hx (fun _ => rfl) (fun _ => rfl) trivial (by show len * 1 ≤ _; omega) hn1 hcells hslots K
theorem wa_newC {x : Int32} {len : Nat} (d : decode cc pc = .ok (.newarray .char, 2)) (hx : x.toInt = (len : Int)) (hb : len ≤ 100000000) (hn1 : n + 1 < ab_CB) (hcells : k + 1 ≤ R.cells) (hslots : z + len ≤ R.slots) (K : WA own cc nL hh R Q (k + 1) (z + len) (pc + 2) ls (.ref n :: st) (n + 1) (ab_up h n (.inl (3, len, .inl (fun _ => 0))))) : WA own cc nL hh R Q k z pc ls (.int x :: st) n h :=
  wa_newa (ty := .char) (t := 3) (a0 := (len, .inl (fun _ => 0))) d wa_cls_char rfl rfl (by decide) hx (fun _ => rfl) (fun _ => rfl) trivial (by show len * 2 ≤ _; omega) hn1 hcells hslots K
end CA
theorem min_nI {a b : Nat} (ha : a < 2 ^ 31) (hb : b < 2 ^ 31) : i_min (nI a) (nI b) = nI (min a b) := by
  unfold i_min
  by_cases h : b < a
  · rw [if_pos (nI_lt h ha), Nat.min_eq_right (by omega)]
  · rw [if_neg (fun z => h (by
      have := Int32.lt_iff_toInt_lt.mp z
      rw [nI_toInt ha, nI_toInt hb] at this
      omega)), Nat.min_eq_left (by omega)]
theorem js_copyOf {n a len N : Nat} {h : ab_H} {f : Nat → Int32} (ha : a < n) (he : h a = .inl (1, len, .inl f)) (h1 : len < N) (h2 : N ≤ 100000) (hn1 : n + 1 < ab_CB) (hf : ∀ i, 0 ≤ (f i).toInt ∧ (f i).toInt < 128) : AM yJ7_copyOf_9075b cJ7_copyOf_9075b 3 (some (.array .byte)) [] 1 1 N [.ref a, .int (nI N)] n h (fun r n' h' => r = .inl (some (.ref n)) ∧ n' = n + 1 ∧ h' = ab_up h n (.inl (1, N, .inl (fun i => if i < len then f i else 0)))) := by
  intro has
  change WA RJ7 cJ7_copyOf_9075b 3 [] _ _ 0 0 0 [some (.ref a), some (.int (nI N)), none] [] n _
  refine wa_iload_n dJ7_copyOf_9075b_0 rfl ?_
  refine wa_aload_n dJ7_copyOf_9075b_1 rfl ?_
  refine wa_alen (t := 1) (len := len) dJ7_copyOf_9075b_2 (by decide) (Or.inl ha) he rfl ?_
  rw [show Int32.ofNat len = nI len from rfl]
  refine wa_icmp_ne 14 dJ7_copyOf_9075b_3 rfl (fun c3 => ?_) (fun c3 => absurd (nI_inj (a := N) (b := len) (by omega) (by omega) c3) (by omega))
  refine wa_iload_n dJ7_copyOf_9075b_14 rfl ?_
  refine wa_newB (len := N) dJ7_copyOf_9075b_15 (nI_toInt (by omega)) (by omega) hn1 (by simp [ab_rm]) (by simp [ab_rm]) ?_
  have ea : ab_up h n (.inl (1, N, .inl (fun _ => 0))) a = .inl (1, len, .inl f) := (ab_up_n _ _ (by omega)).trans he
  refine wa_astore_n dJ7_copyOf_9075b_17 rfl ?_
  refine wa_aload_n dJ7_copyOf_9075b_18 rfl ?_
  refine wa_iconst (x := 0) dJ7_copyOf_9075b_19 (by decide) ?_
  refine wa_aload_n dJ7_copyOf_9075b_20 rfl ?_
  refine wa_iconst (x := 0) dJ7_copyOf_9075b_21 (by decide) ?_
  refine wa_aload_n dJ7_copyOf_9075b_22 rfl ?_
  refine wa_alen (t := 1) (len := len) dJ7_copyOf_9075b_23 (by decide) (Or.inl (by omega)) ea rfl ?_
  rw [show Int32.ofNat len = nI len from rfl]
  refine wa_iload_n dJ7_copyOf_9075b_24 rfl ?_
  refine c_SI dJ7_copyOf_9075b_25 (am_min _ _) lk_J7_304 rfl ?_
  rw [min_nI (by omega) (by omega), Nat.min_eq_left (by omega)]
  refine wa_copy (t := 1) (ty := .byte) (sp := 0) (dp := 0) (len := len) dJ7_copyOf_9075b_28 lk_J7_150 (by omega) (Nat.lt_succ_self n) ea (ab_up_s _ _ _) rfl rfl rfl rfl (nI_toInt (by omega)) (by omega) (by omega) (fun i _ => (fits_b (hf _)).1) (by simp [ab_rm]) ?_
  refine wa_aload_n dJ7_copyOf_9075b_31 rfl ?_
  exact wa_areturn dJ7_copyOf_9075b_32 ⟨by simp, by simp, ⟨_, rfl, Or.inr ⟨_, rfl⟩⟩, rfl, rfl, by
      funext k
      unfold ab_up
      by_cases hk : k = n
      · rw [if_pos hk, if_pos hk]
        congr 4
        funext i
        unfold va_cpy
        by_cases hi : i < len
        · rw [if_pos ⟨Nat.zero_le _, by omega⟩, if_pos hi, Nat.zero_add, Nat.sub_zero]
        · rw [if_neg (fun z => hi (by omega)), if_neg hi]
      · rw [if_neg hk, if_neg hk, if_neg hk]⟩

