/-! java/lang/String: length, charAt. Written by program (wip/whole/gen/m605.py) but for the heads. -/
abbrev PAh (v : Value) (n : Nat) (h : ab_H) : ab_R → Nat → ab_H → Prop := fun r n' h' => r = .inl (some v) ∧ n' = n ∧ h' = h
abbrev PVh (n : Nat) (h : ab_H) : ab_R → Nat → ab_H → Prop := fun r n' h' => r = .inl none ∧ n' = n ∧ h' = h
/-- a String that stands for bytes -/
def STR (n : Nat) (h : ab_H) (a len : Nat) (f : Nat → Int32) : Prop := len < 2 ^ 31 ∧ ∃ ci N v tl, (ab_cl[ci]? = some (RJ0, TJ0, N) ∧ (∀ w ∈ u_ws RJ0 TJ0 N, w ∈ ab_big) ∧ 2 ≤ N) ∧ (ab_dom n h a ∧ h a = .inr (ci, .ref v :: .int 0 :: tl)) ∧ ab_dom n h v ∧ h v = .inl (1, len, .inl f)
def chr (x : Int32) : Int32 := ((x &&& 255).toUInt32 % 65536).toInt32
theorem shr0 (x : Int32) : x >>> ((0 : Int32) &&& 31) = x := by
  rw [show (0 : Int32) &&& 31 = 0 from by decide]
  exact Int32.shiftRight_zero
theorem chr_ok (x : Int32) : narrow .char (.int (chr x)) = .int (chr x) := by
  unfold chr
  show Value.int _ = _
  congr 1
  generalize (x &&& 255).toUInt32 = u
  have : (u % 65536).toInt32.toUInt32.toUInt16.toUInt32 = u % 65536 := by
    apply UInt32.toNat_inj.mp
    simp
  rw [this]
theorem chr_lo {x : Int32} (h0 : 0 ≤ x.toInt) (h1 : x.toInt < 128) : chr x = x := by
  obtain ⟨e, -⟩ := nI_of_nn h0
  rw [e]
  have h2 : x.toInt.toNat < 128 := by omega
  generalize x.toInt.toNat = k at h2
  exact (by decide +kernel : ∀ k, k < 128 → chr (nI k) = nI k) k h2

theorem am_scoder {n a len : Nat} {h : ab_H} {f : Nat → Int32} (hS : STR n h a len f) : AM yJ0_coder_7d493 cJ0_coder_7d493 1 (some .byte) [] 0 0 0 [.ref a] n h (PAh (.int 0) n h) := by
  intro has
  change WA RJ0 cJ0_coder_7d493 1 [] _ _ 0 0 0 [some (.ref a)] [] n _
  obtain ⟨hlen, ci, N, v, tl, ⟨hcl, hin, hN⟩, ⟨ha, he⟩, hv, hve⟩ := hS
  refine wa_gets dJ0_coder_7d493_0 (v := .int 1) List.mem_cons_self fl_J0_38 trivial ?_
  refine wa_if_eq 13 dJ0_coder_7d493_3 rfl (fun c3 => absurd c3 (by decide)) (fun c3 => ?_)
  refine wa_aload_n dJ0_coder_7d493_6 rfl ?_
  refine wa_getf 1 dJ0_coder_7d493_7 fl_J0_15 hcl hin (by omega) ha he rfl ?_
  refine wa_goto 14 dJ0_coder_7d493_10 rfl ?_
  exact wa_ireturn dJ0_coder_7d493_14 ⟨Nat.le_refl _, Nat.le_refl _, ⟨_, rfl, rfl⟩, rfl, rfl, rfl⟩
theorem am_slatin {n a len : Nat} {h : ab_H} {f : Nat → Int32} (hS : STR n h a len f) : AM yJ0_isLatin1_aae02 cJ0_isLatin1_aae02 1 (some .boolean) [] 0 0 0 [.ref a] n h (PAh (.int 1) n h) := by
  intro has
  change WA RJ0 cJ0_isLatin1_aae02 1 [] _ _ 0 0 0 [some (.ref a)] [] n _
  obtain ⟨hlen, ci, N, v, tl, ⟨hcl, hin, hN⟩, ⟨ha, he⟩, hv, hve⟩ := hS
  refine wa_gets dJ0_isLatin1_aae02_0 (v := .int 1) List.mem_cons_self fl_J0_38 trivial ?_
  refine wa_if_eq 17 dJ0_isLatin1_aae02_3 rfl (fun c3 => absurd c3 (by decide)) (fun c3 => ?_)
  refine wa_aload_n dJ0_isLatin1_aae02_6 rfl ?_
  refine wa_getf 1 dJ0_isLatin1_aae02_7 fl_J0_15 hcl hin (by omega) ha he rfl ?_
  refine wa_if_ne 17 dJ0_isLatin1_aae02_10 rfl (fun c10 => absurd rfl c10) (fun c10 => ?_)
  refine wa_iconst (x := 1) dJ0_isLatin1_aae02_13 (by decide) ?_
  refine wa_goto 18 dJ0_isLatin1_aae02_14 rfl ?_
  exact wa_ireturn dJ0_isLatin1_aae02_18 ⟨Nat.le_refl _, Nat.le_refl _, ⟨_, rfl, rfl⟩, rfl, rfl, rfl⟩
theorem am_slen {n a len : Nat} {h : ab_H} {f : Nat → Int32} (hS : STR n h a len f) : AM yJ0_length_8abf5 cJ0_length_8abf5 1 (some .int) [] 1 0 0 [.ref a] n h (PAh (.int (nI len)) n h) := by
  intro has
  change WA RJ0 cJ0_length_8abf5 1 [] _ _ 0 0 0 [some (.ref a)] [] n _
  have hS0 := hS
  obtain ⟨hlen, ci, N, v, tl, ⟨hcl, hin, hN⟩, ⟨ha, he⟩, hv, hve⟩ := hS
  refine wa_aload_n dJ0_length_8abf5_0 rfl ?_
  refine wa_getf 0 dJ0_length_8abf5_1 fl_J0_9 hcl hin (by omega) ha he rfl ?_
  refine wa_alen dJ0_length_8abf5_4 (by decide) hv hve rfl ?_
  refine wa_aload_n dJ0_length_8abf5_5 rfl ?_
  refine c_VAh dJ0_length_8abf5_6 (am_scoder hS0) lk_J0_335 rfl he hcl ha ?_
  refine wa_ishr dJ0_length_8abf5_9 ?_
  rw [shr0]
  exact wa_ireturn dJ0_length_8abf5_10 ⟨Nat.le_refl _, Nat.le_refl _, ⟨_, rfl, rfl⟩, rfl, rfl, rfl⟩
theorem nI_0le {k : Nat} (h : k < 2 ^ 31) : (0 : Int32) ≤ nI k := by
  rw [Int32.le_iff_toInt_le, Int32.toInt_zero, nI_toInt h]; omega
theorem am_ckix3 {n : Nat} {h : ab_H} {i len : Nat} (w : Value) (hw : w = .null ∨ w = .ref (ab_CB + 134)) (hi : i < len) (hl : len < 2 ^ 31) : AM yJ3_checkIndex_8e157 cJ3_checkIndex_8e157 3 (some .int) [] 0 0 0 [.int (nI i), .int (nI len), w] n h (PAh (.int (nI i)) n h) := by
  intro has
  have e : ab_en 3 [.int (nI i), .int (nI len), w] = [some (.int (nI i)), some (.int (nI len)), some w] := by
    rcases hw with rfl | rfl <;> rfl
  show WA _ _ _ _ _ _ _ _ _ (ab_en 3 [.int (nI i), .int (nI len), w]) _ _ _
  rw [e]
  change WA RJ3 cJ3_checkIndex_8e157 3 [] _ _ 0 0 0 _ [] n _
  refine wa_iload_n dJ3_checkIndex_8e157_0 rfl ?_
  refine wa_if_lt 9 dJ3_checkIndex_8e157_1 rfl (fun c1 => absurd c1 (Int32.not_lt.mpr (nI_0le (by omega)))) (fun c1 => ?_)
  refine wa_iload_n dJ3_checkIndex_8e157_4 rfl ?_
  refine wa_iload_n dJ3_checkIndex_8e157_5 rfl ?_
  refine wa_icmp_lt 16 dJ3_checkIndex_8e157_6 rfl (fun c6 => ?_) (fun c6 => absurd (nI_lt hi hl) c6)
  refine wa_iload_n dJ3_checkIndex_8e157_16 rfl ?_
  exact wa_ireturn dJ3_checkIndex_8e157_17 ⟨Nat.le_refl _, Nat.le_refl _, ⟨_, rfl, rfl⟩, rfl, rfl, rfl⟩
theorem am_ckix {n : Nat} {h : ab_H} {i len : Nat} (hi : i < len) (hl : len < 2 ^ 31) : AM yJ0_checkIndex_df160 cJ0_checkIndex_df160 2 none [] 1 0 0 [.int (nI i), .int (nI len)] n h (PVh n h) := by
  intro has
  change WA RJ0 cJ0_checkIndex_df160 2 [] _ _ 0 0 0 [some (.int (nI i)), some (.int (nI len))] [] n _
  refine wa_iload_n dJ0_checkIndex_df160_0 rfl ?_
  refine wa_iload_n dJ0_checkIndex_df160_1 rfl ?_
  refine wa_getsSI dJ0_checkIndex_df160_2 fl_J0_1053 (fun w hw => ?_)
  refine c_SAh dJ0_checkIndex_df160_5 (am_ckix3 w hw hi hl) lk_J0_1059 rfl ?_ (by rcases hw with rfl | rfl <;> exact Nat.le_of_ble_eq_true rfl)
  refine wa_pop dJ0_checkIndex_df160_8 rfl ?_
  exact wa_return dJ0_checkIndex_df160_9 ⟨Nat.le_refl _, Nat.le_refl _, rfl, rfl, rfl, rfl⟩
theorem am_l1char {n v len j : Nat} {h : ab_H} {f : Nat → Int32} (hl : len < 2 ^ 31) (hv : ab_dom n h v) (hve : h v = .inl (1, len, .inl f)) (hj : j < len) : AM yJ1_charAt_3b067 cJ1_charAt_3b067 2 (some .char) [] 2 0 0 [.ref v, .int (nI j)] n h (PAh (.int (chr (f j))) n h) := by
  intro has
  change WA RJ1 cJ1_charAt_3b067 2 [] _ _ 0 0 0 [some (.ref v), some (.int (nI j))] [] n _
  refine wa_iload_n dJ1_charAt_3b067_0 rfl ?_
  refine wa_aload_n dJ1_charAt_3b067_1 rfl ?_
  refine wa_alen dJ1_charAt_3b067_2 (by decide) hv hve rfl ?_
  refine c_SV dJ1_charAt_3b067_3 (am_ckix hj hl) lk_J1_9 rfl ?_
  refine wa_aload_n dJ1_charAt_3b067_6 rfl ?_
  refine wa_iload_n dJ1_charAt_3b067_7 rfl ?_
  refine wa_bald (j := j) dJ1_charAt_3b067_8 hv hve (ix_nI (by omega)) hj ?_
  refine wa_sipush (x := 255) dJ1_charAt_3b067_9 (by decide) ?_
  refine wa_iand dJ1_charAt_3b067_12 ?_
  refine wa_i2c dJ1_charAt_3b067_13 ?_
  exact wa_ireturn dJ1_charAt_3b067_14 ⟨Nat.le_refl _, Nat.le_refl _, ⟨_, rfl, chr_ok _⟩, rfl, rfl, rfl⟩
theorem am_charAt {n a len j : Nat} {h : ab_H} {f : Nat → Int32} (hS : STR n h a len f) (hj : j < len) : AM yJ0_charAt_5068e cJ0_charAt_5068e 2 (some .char) [] 3 0 0 [.ref a, .int (nI j)] n h (PAh (.int (chr (f j))) n h) := by
  intro has
  change WA RJ0 cJ0_charAt_5068e 2 [] _ _ 0 0 0 [some (.ref a), some (.int (nI j))] [] n _
  have hS0 := hS
  obtain ⟨hlen, ci, N, v, tl, ⟨hcl, hin, hN⟩, ⟨ha, he⟩, hv, hve⟩ := hS
  refine wa_aload_n dJ0_charAt_5068e_0 rfl ?_
  refine c_VAh dJ0_charAt_5068e_1 (am_slatin hS0) lk_J0_492 rfl he hcl ha ?_
  refine wa_if_eq 16 dJ0_charAt_5068e_4 rfl (fun c4 => absurd c4 (by decide)) (fun c4 => ?_)
  refine wa_aload_n dJ0_charAt_5068e_7 rfl ?_
  refine wa_getf 0 dJ0_charAt_5068e_8 fl_J0_9 hcl hin (by omega) ha he rfl ?_
  refine wa_iload_n dJ0_charAt_5068e_11 rfl ?_
  refine c_SAh dJ0_charAt_5068e_12 (am_l1char hlen hv hve hj) lk_J0_495 rfl ?_
  exact wa_ireturn dJ0_charAt_5068e_15 ⟨Nat.le_refl _, Nat.le_refl _, ⟨_, rfl, chr_ok _⟩, rfl, rfl, rfl⟩

