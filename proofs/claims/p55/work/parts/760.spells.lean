/-! ValveRoom: spells. Written by program (wip/whole/gen/m760.py) but for the heads. -/
theorem nI_leN {a b : Nat} (h : a ≤ b) (hb : b < 2 ^ 31) : nI a ≤ nI b := by
  rw [Int32.le_iff_toInt_le, nI_toInt hb, nI_toInt (by omega)]; omega
theorem lp_spells {Q : ab_Q} {n b L a p len : Nat} {h : ab_H} {f s : Nat → Int32} (hb : ab_dom n h b) (hbe : h b = .inl (1, L, .inl f)) (hL : L < 2 ^ 31) (hS : STR n h a len s) (hlo : ∀ j, j < len → 0 ≤ (s j).toInt ∧ (s j).toInt < 128) (hp : p + len ≤ L) (h1 : (∀ j, j < len → f (p + j) = s j) → Q (.inl (some (.int 1))) 0 0 n h) (h0 : ¬ (∀ j, j < len → f (p + j) = s j) → Q (.inl (some (.int 0))) 0 0 n h) :
    ∀ (r k : Nat), k + r = len → (∀ j, j < k → f (p + j) = s j) → WA RX6 cX6_spells 5 [] (ab_rm 4 0 0) Q 0 0 25 [some (.ref b), some (.int (nI p)), some (.int (nI len)), some (.ref a), some (.int (nI (k)))] [] n (h) := by
  intro r
  induction r with
  | zero =>
    intro k hk
    have hk' : len = k := by omega
    intro hA
    have hk2 : k = len := hk'.symm
    refine wa_iload dX6_spells_25 rfl ?_
    refine wa_iload_n dX6_spells_27 rfl ?_
    refine wa_icmp_ge 54 dX6_spells_28 rfl (fun c28 => ?_) (fun c28 => absurd (by rw [hk2]; exact Int32.le_refl _) c28)
    refine wa_iconst (x := 1) dX6_spells_54 (by decide) ?_
    exact wa_ireturn dX6_spells_55 (h1 (by rw [← hk2]; exact hA))
  | succ r ih =>
    intro k hk
    intro hA
    have hlen := hS.1
    obtain ⟨-, ci, N, v, tl, ⟨hcl, -, -⟩, ⟨ha, he⟩, -, -⟩ := id hS

    refine wa_iload dX6_spells_25 rfl ?_
    refine wa_iload_n dX6_spells_27 rfl ?_
    refine wa_icmp_ge 54 dX6_spells_28 rfl (fun c28 => absurd c28 (Int32.not_le.mpr (nI_lt (by omega) (by omega)))) (fun c28 => ?_)
    refine wa_aload_n dX6_spells_31 rfl ?_
    refine wa_iload_n dX6_spells_32 rfl ?_
    refine wa_iload dX6_spells_33 rfl ?_
    refine wa_iadd dX6_spells_35 ?_
    rw [nI_add]
    refine wa_bald (j := p + k) dX6_spells_36 hb hbe (ix_nI (by omega)) (by omega) ?_
    refine wa_aload_n dX6_spells_37 rfl ?_
    refine wa_iload dX6_spells_38 rfl ?_
    refine c_VAh dX6_spells_40 (am_charAt hS (j := k) (by omega)) lk_X6_341 rfl he hcl ha ?_
    rw [chr_lo (hlo k (by omega)).1 (hlo k (by omega)).2]
    refine wa_icmp_eq 48 dX6_spells_43 rfl (fun c43 => ?_) (fun c43 => ?_)
    · refine wa_iinc (y := 1) dX6_spells_48 rfl (by decide) rfl ?_
      refine wa_goto 25 dX6_spells_51 rfl ?_
      rw [nI_1 k]
      exact ih (k + 1) (by omega) (fun j hj => by
        rcases Nat.lt_or_ge j k with q | q
        · exact hA j q
        · rw [show j = k by omega]; exact c43)
    · refine wa_iconst (x := 0) dX6_spells_46 (by decide) ?_
      exact wa_ireturn dX6_spells_47 (h0 (fun z => c43 (z k (by omega))))
theorem vr_spells {n b L a p l len : Nat} {h : ab_H} {f s : Nat → Int32} (hb : ab_dom n h b) (hbe : h b = .inl (1, L, .inl f)) (hL : L < 2 ^ 31) (hS : STR n h a len s) (hlo : ∀ j, j < len → 0 ≤ (s j).toInt ∧ (s j).toInt < 128) (hp : p + l ≤ L) : AM yX6_spells cX6_spells 5 (some .boolean) [] 4 0 0 [.ref b, .int (nI p), .int (nI l), .ref a] n h (PAh (.int (c2i (l = len ∧ ∀ j, j < len → f (p + j) = s j))) n h) := by
  intro has
  change WA RX6 cX6_spells 5 [] _ _ 0 0 0 [some (.ref b), some (.int (nI p)), some (.int (nI l)), some (.ref a), none] [] n _
  have hlen := hS.1
  obtain ⟨-, ci, N, v, tl, ⟨hcl, -, -⟩, ⟨ha, he⟩, -, -⟩ := id hS
  refine wa_iload_n dX6_spells_0 rfl ?_
  refine wa_aload_n dX6_spells_1 rfl ?_
  refine c_VAh dX6_spells_2 (am_slen hS) lk_X6_338 rfl he hcl ha ?_
  refine wa_icmp_ne 20 dX6_spells_5 rfl (fun c5 => ?_) (fun c5 => ?_)
  · refine wa_iconst (x := 0) dX6_spells_20 (by decide) ?_
    exact wa_ireturn dX6_spells_21 ⟨Nat.le_refl _, Nat.le_refl _, ⟨_, rfl, rfl⟩, by rw [c2i_0 (fun z => c5 (congrArg nI z.1))], rfl, rfl⟩
  · refine wa_iload_n dX6_spells_8 rfl ?_
    refine wa_if_lt 20 dX6_spells_9 rfl (fun c9 => absurd c9 (Int32.not_lt.mpr (nI_0le (by omega)))) (fun c9 => ?_)
    refine wa_iload_n dX6_spells_12 rfl ?_
    refine wa_aload_n dX6_spells_13 rfl ?_
    refine wa_alen dX6_spells_14 (by decide) hb hbe rfl ?_
    refine wa_iload_n dX6_spells_15 rfl ?_
    refine wa_isub dX6_spells_16 ?_
    rw [show Int32.ofNat L = nI L from rfl, nI_sub (by omega)]
    refine wa_icmp_le 22 dX6_spells_17 rfl (fun c17 => ?_) (fun c17 => absurd (nI_leN (a := p) (b := L - l) (by omega) (by omega)) c17)
    refine wa_iconst (x := 0) dX6_spells_22 (by decide) ?_
    refine wa_istore dX6_spells_23 rfl ?_
    have e : l = len := nI_inj (by omega) hlen c5
    subst e
    exact lp_spells hb hbe hL hS hlo hp (fun z => ⟨Nat.le_refl _, Nat.le_refl _, ⟨_, rfl, rfl⟩, by rw [c2i_1 ⟨rfl, z⟩], rfl, rfl⟩) (fun z => ⟨Nat.le_refl _, Nat.le_refl _, ⟨_, rfl, rfl⟩, by rw [c2i_0 (fun y => z y.2)], rfl, rfl⟩) l 0 (Nat.zero_add _) (fun j hj => absurd hj (Nat.not_lt_zero _))

