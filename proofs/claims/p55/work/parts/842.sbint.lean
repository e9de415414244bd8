/-! Integer: stringSize, getChars. Written by program (wip/whole/gen/m842.py) but for the heads. -/
theorem neg_nI {a : Nat} (h : a < 2 ^ 31) : (-nI a).toInt = -(a : Int) := by
  rw [Int32.toInt_neg, nI_toInt h]
  exact Int.bmod_eq_of_le (by omega) (by omega)
theorem neg_le {a b : Nat} (ha : a < 2 ^ 31) (hb : b < 2 ^ 31) : -nI a ≤ -nI b ↔ b ≤ a := by
  rw [Int32.le_iff_toInt_le, neg_nI ha, neg_nI hb]
  omega
theorem neg_lt {a b : Nat} (ha : a < 2 ^ 31) (hb : b < 2 ^ 31) : -nI a < -nI b ↔ b < a := by
  rw [Int32.lt_iff_toInt_lt, neg_nI ha, neg_nI hb]
  omega
theorem neg_mul {a b : Nat} : nI a * -nI b = -nI (a * b) := by
  rw [← nI_mul, Int32.mul_neg]
theorem neg_div {c : Nat} (h : c < 2 ^ 31) : (-nI c) / 100 = -nI (c / 100) := by
  apply Int32.toInt_inj.mp
  have h1 := Nat.div_le_self c 100
  rw [Int32.toInt_div, neg_nI h, neg_nI (by omega), show (100 : Int32).toInt = ((100 : Nat) : Int) by decide, Int.neg_tdiv, Int.tdiv_eq_ediv_of_nonneg (by omega), ← Int.natCast_ediv]
  generalize c / 100 = q at h1 ⊢
  exact Int.bmod_eq_of_le (by omega) (by omega)
theorem neg_rem {c : Nat} (_h : c < 2 ^ 31) : -nI (c / 100) * 100 - -nI c = nI (c % 100) := by
  have e : -nI (c / 100) * 100 = -nI (100 * (c / 100)) := by
    rw [Int32.mul_comm]
    exact neg_mul (a := 100)
  have e2 : nI c = nI (100 * (c / 100)) + nI (c % 100) := by
    rw [nI_addS, Nat.div_add_mod]
  rw [e, e2, Int32.sub_eq_add_neg, Int32.neg_neg, ← Int32.add_assoc, Int32.add_comm (-_), Int32.add_right_neg, Int32.zero_add]
theorem negneg (x : Int32) : - -x = x := Int32.neg_neg
theorem dk_uni {a m : Nat} (h1 : 10 ^ m ≤ a ∨ m = 0) (h2 : a < 10 ^ (m + 1)) : dk 10 a = m := by
  have hle := dk_le (B := 10) (by decide) h2
  rcases h1 with h1 | rfl
  · refine Nat.le_antisymm hle (Nat.le_of_not_lt (fun z => ?_))
    have h3 := (dk_ok (B := 10) (by decide) a).2
    have h4 : (10 : Nat) ^ (dk 10 a + 1) ≤ 10 ^ m := Nat.pow_le_pow_right (by decide) z
    omega
  · omega
theorem pow8 {i : Nat} (h : i ≤ 8) : (10 : Nat) ^ i ≤ 100000000 := Nat.le_trans (Nat.pow_le_pow_right (by decide) h) (by decide)
theorem lp_ssz {Q : ab_Q} {a s n : Nat} {h : ab_H} (ha : a < 100000000) (hs : s ≤ 1) (hQ : Q (.inl (some (.int (nI (dk 10 a + 1 + s))))) 0 0 n h) : ∀ (r i : Nat), i + r = dk 10 a + 1 → 1 ≤ i → WA RJ6 cJ6_stringSize_0f7a4 4 [] (ab_rm 0 0 0) Q 0 0 16 [some (.int (-nI a)), some (.int (nI s)), some (.int (-nI (10 ^ i))), some (.int (nI i))] [] n h := by
  have h7 := dk_le (B := 10) (a := a) (m := 7) (by decide) (by omega)
  intro r
  induction r with
  | zero =>
    intro i hk h1
    have hk2 : i = dk 10 a + 1 := by omega
    have h9 := (dk_ok (B := 10) (by decide) a).2
    have h8 := pow8 (i := i) (by omega)
    rw [← hk2] at h9
    refine wa_iload_n dJ6_stringSize_0f7a4_16 rfl ?_
    refine wa_bipush (x := 10) dJ6_stringSize_0f7a4_17 (by decide) ?_
    refine wa_icmp_ge 42 dJ6_stringSize_0f7a4_19 rfl (fun c19 => absurd c19 (nI_ge (a := i) (b := 10) (by omega) (by omega))) (fun c19 => ?_)
    refine wa_iload_n dJ6_stringSize_0f7a4_22 rfl ?_
    refine wa_iload_n dJ6_stringSize_0f7a4_23 rfl ?_
    refine wa_icmp_le 31 dJ6_stringSize_0f7a4_24 rfl (fun c24 => absurd ((neg_le (by omega) (by omega)).mp c24) (by omega)) (fun c24 => ?_)
    refine wa_iload_n dJ6_stringSize_0f7a4_27 rfl ?_
    refine wa_iload_n dJ6_stringSize_0f7a4_28 rfl ?_
    refine wa_iadd dJ6_stringSize_0f7a4_29 ?_
    rw [nI_addS]
    exact wa_ireturn dJ6_stringSize_0f7a4_30 (by rw [hk2]; exact hQ)
  | succ r ih =>
    intro i hk h1
    have h9 : 10 ^ i ≤ a := by
      have := dk_lt (B := 10) (a := a) (k := i - 1) (by decide) (by omega)
      rwa [Nat.sub_add_cancel h1] at this
    have h8 := pow8 (i := i) (by omega)
    refine wa_iload_n dJ6_stringSize_0f7a4_16 rfl ?_
    refine wa_bipush (x := 10) dJ6_stringSize_0f7a4_17 (by decide) ?_
    refine wa_icmp_ge 42 dJ6_stringSize_0f7a4_19 rfl (fun c19 => absurd c19 (nI_ge (a := i) (b := 10) (by omega) (by omega))) (fun c19 => ?_)
    refine wa_iload_n dJ6_stringSize_0f7a4_22 rfl ?_
    refine wa_iload_n dJ6_stringSize_0f7a4_23 rfl ?_
    refine wa_icmp_le 31 dJ6_stringSize_0f7a4_24 rfl (fun c24 => ?_) (fun c24 => absurd ((neg_le (by omega) (by omega)).mpr h9) c24)
    refine wa_bipush (x := 10) dJ6_stringSize_0f7a4_31 (by decide) ?_
    refine wa_iload_n dJ6_stringSize_0f7a4_33 rfl ?_
    refine wa_imul dJ6_stringSize_0f7a4_34 ?_
    rw [show (10 : Int32) * -nI (10 ^ i) = -nI (10 * 10 ^ i) from neg_mul (a := 10), show 10 * 10 ^ i = 10 ^ (i + 1) by rw [Nat.pow_succ, Nat.mul_comm]]
    refine wa_istore_n dJ6_stringSize_0f7a4_35 rfl ?_
    refine wa_iinc (y := 1) dJ6_stringSize_0f7a4_36 rfl (by decide) rfl ?_
    refine wa_goto 16 dJ6_stringSize_0f7a4_39 rfl ?_
    rw [nI_1 i]
    exact ih (i + 1) (by omega) (by omega)
theorem v_neg {v : Int32} (h : v < 0) : v = -nI v.toInt.natAbs := by
  apply Int32.toInt_inj.mp
  have h1 := Int32.lt_iff_toInt_lt.mp h
  have h2 := Int32.le_toInt v
  rw [Int32.toInt_zero] at h1
  by_cases hm : v.toInt = -2147483648
  · rw [hm]
    have : v = -2147483648 := Int32.toInt_inj.mp (by rw [hm]; decide)
    rw [show (Int.natAbs (-2147483648)) = 2147483648 from rfl]
    decide
  · rw [neg_nI (by omega)]
    omega
theorem v_pos {v : Int32} (h : ¬ v < 0) : v = nI v.toInt.natAbs := by
  have h1 : 0 ≤ v.toInt := by
    have := Int32.not_lt.mp h
    rw [Int32.le_iff_toInt_le, Int32.toInt_zero] at this
    exact this
  have := (nI_of_nn h1).1
  rw [show v.toInt.natAbs = v.toInt.toNat by omega]
  exact this
theorem decI_l (v : Int32) : (decI v).length = dk 10 v.toInt.natAbs + 1 + if v < 0 then 1 else 0 := by
  unfold decI decN
  rw [List.length_append, dd_len]
  split <;> simp <;> omega
theorem js_stringSize {n : Nat} {h : ab_H} {v : Int32} (ha : v.toInt.natAbs < 100000000) : AM yJ6_stringSize_0f7a4 cJ6_stringSize_0f7a4 4 (some .int) [] 0 0 0 [.int v] n h (PAh (.int (nI (decI v).length)) n h) := by
  intro has
  change WA RJ6 cJ6_stringSize_0f7a4 4 [] _ _ 0 0 0 [some (.int v), none, none, none] [] n _
  rw [decI_l]
  by_cases hv : v < 0
  · rw [if_pos hv]
    have ev := v_neg hv
    generalize v.toInt.natAbs = a at ha ev ⊢
    subst ev
    refine wa_iconst (x := 1) dJ6_stringSize_0f7a4_0 (by decide) ?_
    refine wa_istore_n dJ6_stringSize_0f7a4_1 rfl ?_
    refine wa_iload_n dJ6_stringSize_0f7a4_2 rfl ?_
    refine wa_if_lt 11 dJ6_stringSize_0f7a4_3 rfl (fun c3 => ?_) (fun c3 => absurd hv c3)
    refine wa_bipush (x := (-10)) dJ6_stringSize_0f7a4_11 (by decide) ?_
    refine wa_istore_n dJ6_stringSize_0f7a4_13 rfl ?_
    refine wa_iconst (x := 1) dJ6_stringSize_0f7a4_14 (by decide) ?_
    refine wa_istore_n dJ6_stringSize_0f7a4_15 rfl ?_
    exact lp_ssz (s := 1) ha (by decide) ⟨Nat.le_refl _, Nat.le_refl _, ⟨_, rfl, rfl⟩, rfl, rfl, rfl⟩ (dk 10 a) 1 (by omega) (Nat.le_refl _)
  · rw [if_neg hv]
    have ev := v_pos hv
    generalize v.toInt.natAbs = a at ha ev ⊢
    subst ev
    refine wa_iconst (x := 1) dJ6_stringSize_0f7a4_0 (by decide) ?_
    refine wa_istore_n dJ6_stringSize_0f7a4_1 rfl ?_
    refine wa_iload_n dJ6_stringSize_0f7a4_2 rfl ?_
    refine wa_if_lt 11 dJ6_stringSize_0f7a4_3 rfl (fun c3 => absurd c3 hv) (fun c3 => ?_)
    refine wa_iconst (x := 0) dJ6_stringSize_0f7a4_6 (by decide) ?_
    refine wa_istore_n dJ6_stringSize_0f7a4_7 rfl ?_
    refine wa_iload_n dJ6_stringSize_0f7a4_8 rfl ?_
    refine wa_ineg dJ6_stringSize_0f7a4_9 ?_
    refine wa_istore_n dJ6_stringSize_0f7a4_10 rfl ?_
    refine wa_bipush (x := (-10)) dJ6_stringSize_0f7a4_11 (by decide) ?_
    refine wa_istore_n dJ6_stringSize_0f7a4_13 rfl ?_
    refine wa_iconst (x := 1) dJ6_stringSize_0f7a4_14 (by decide) ?_
    refine wa_istore_n dJ6_stringSize_0f7a4_15 rfl ?_
    exact lp_ssz (s := 0) ha (by decide) ⟨Nat.le_refl _, Nat.le_refl _, ⟨_, rfl, rfl⟩, rfl, rfl, rfl⟩ (dk 10 a) 1 (by omega) (Nat.le_refl _)

