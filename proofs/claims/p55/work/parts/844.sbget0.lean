/-! Integer: getChars. Written by program (wip/whole/gen/m844.py) but for the heads. -/
/-- the last k digits of a written before place e -/
def gch (f : Nat → Int32) (a e k : Nat) : Nat → Int32 := fun i => if e - k ≤ i ∧ i < e then nI (48 + a / 10 ^ (e - 1 - i) % 10) else f i
theorem gch_0 (f : Nat → Int32) (a e : Nat) : gch f a e 0 = f := by
  funext i
  exact if_neg (by omega)
theorem gch_s {f : Nat → Int32} {a e k : Nat} {x : Int32} (h : k + 1 ≤ e) (hx : x = nI (48 + a / 10 ^ k % 10)) : upd (gch f a e k) (e - (k + 1)) x = gch f a e (k + 1) := by
  funext i
  unfold gch
  by_cases hi : i = e - (k + 1)
  · subst hi
    rw [upd_e, if_pos (by omega), hx, show e - 1 - (e - (k + 1)) = k by omega]
  · rw [upd_o hi]
    by_cases h1 : e - k ≤ i ∧ i < e
    · rw [if_pos h1, if_pos (by omega)]
    · rw [if_neg h1, if_neg (by omega)]
theorem do_at {r : Nat} (h : r < 100) : ab_do.getD r 0 = nI (48 + r % 10) := (by decide : ∀ r, r < 100 → ab_do.getD r 0 = nI (48 + r % 10)) r h
theorem dt_at {r : Nat} (h : r < 100) : ab_dt.getD r 0 = nI (48 + r / 10) := (by decide : ∀ r, r < 100 → ab_dt.getD r 0 = nI (48 + r / 10)) r h
theorem nb_dig {x : Nat} (h : x < 10) : vp_nar .byte (nI (48 + x)) = nI (48 + x) := (by decide : ∀ x, x < 10 → vp_nar .byte (nI (48 + x)) = nI (48 + x)) x h
theorem p100 (a t : Nat) : a / 10 ^ (2 * t) / 100 = a / 10 ^ (2 * (t + 1)) ∧ a / 10 ^ (2 * t + 1) = a / 10 ^ (2 * t) / 10 := by
  refine ⟨?_, ?_⟩
  · rw [Nat.div_div_eq_div_mul, show 2 * (t + 1) = 2 * t + 2 by omega, Nat.pow_add]
  · rw [Nat.div_div_eq_div_mul, Nat.pow_succ]
theorem up_up {h : ab_H} {b : Nat} {e1 e2 : va_E} : ab_up (ab_up h b e1) b e2 = ab_up h b e2 := by
  funext k
  unfold ab_up
  by_cases hk : k = b
  · rw [if_pos hk, if_pos hk]
  · rw [if_neg hk, if_neg hk, if_neg hk]
theorem nI_m1s {k : Nat} (h : 1 ≤ k) : nI k + (-1) = nI (k - 1) := by
  rw [← nI_s1b h, Int32.sub_eq_add_neg]
def gfin (f : Nat → Int32) (a e s : Nat) : Nat → Int32 := if s = 0 then gch f a e (dk 10 a + 1) else upd (gch f a e (dk 10 a + 1)) (e - (dk 10 a + 2)) 45
theorem kup {h : ab_H} {b k : Nat} {x : va_E} (hb : b < ab_CB) (hk : h (ab_CB + k) = ab_kc k) : ab_up h b x (ab_CB + k) = ab_kc k := (ab_up_n _ _ (by omega)).trans hk
theorem dig_lo {a c t : Nat} (hc : c = a / 10 ^ (2 * t)) (h : 1 ≤ c ∨ t = 0) : 10 ^ (2 * t) ≤ a ∨ 2 * t = 0 := by
  rcases h with h | h
  · refine Or.inl ?_
    rw [hc] at h
    have := (Nat.le_div_iff_mul_le (Nat.pow_pos (by decide))).mp h
    omega
  · exact Or.inr (by omega)
theorem dig_hi {a c t : Nat} (hc : c = a / 10 ^ (2 * t)) (h : c < 10) : a < 10 ^ (2 * t + 1) := by
  rw [hc] at h
  have := (Nat.div_lt_iff_lt_mul (Nat.pow_pos (by decide))).mp h
  rw [Nat.pow_succ, Nat.mul_comm]
  exact this
theorem dig_lo2 {a c t : Nat} (hc : c = a / 10 ^ (2 * t)) (h : 10 ≤ c) : 10 ^ (2 * t + 1) ≤ a ∨ 2 * t + 1 = 0 := by
  rw [hc] at h
  have := (Nat.le_div_iff_mul_le (Nat.pow_pos (by decide))).mp h
  rw [Nat.pow_succ, Nat.mul_comm]
  exact Or.inl this
theorem dig_hi2 {a c t : Nat} (hc : c = a / 10 ^ (2 * t)) (h : c < 100) : a < 10 ^ (2 * t + 1 + 1) := by
  rw [hc] at h
  have := (Nat.div_lt_iff_lt_mul (Nat.pow_pos (by decide))).mp h
  rw [show 2 * t + 1 + 1 = 2 * t + 2 from rfl, Nat.pow_add, Nat.mul_comm]
  exact this
theorem lp_gexit {Q : ab_Q} {n a b L e s : Nat} {h : ab_H} {f : Nat → Int32} (hb : b < n) (ha : a < 100000000) (he : e ≤ L) (hL : L < 1000000) (hs : s ≤ 1) (hl : dk 10 a + 1 + s ≤ e) (hnb : n ≤ ab_CB) (hk2 : h (ab_CB + 132) = ab_kc 132) (hk3 : h (ab_CB + 133) = ab_kc 133) {c t : Nat} {l3 l4 : Option Value} (h4 : ∀ x : Int32, ab_c1 [some (.int (-nI c)), some (.int (nI e)), some (.ref b), l3, l4, some (.int x), some (.int (nI s))] 5 = true) (hc : c = a / 10 ^ (2 * t)) (hc9 : c < 100) (hc1 : 1 ≤ c ∨ t = 0) (ht : t ≤ 4) (hte : 2 * t + 1 ≤ dk 10 a + 1) (hte2 : 10 ≤ c → 2 * t + 2 ≤ dk 10 a + 1) (hQ : Q (.inl (some (.int (nI (e - (dk 10 a + 1 + s)))))) 0 0 n (ab_up h b (.inl (1, L, .inl (gfin f a e s))))) : WA RJ6 cJ6_getChars_ba4f3 7 [] (ab_rm 0 0 0) Q 0 0 72 [some (.int (-nI c)), some (.int (nI e)), some (.ref b), l3, l4, some (.int (nI (e - 2 * t))), some (.int (nI s))] [] n (ab_up h b (.inl (1, L, .inl (gch f a e (2 * t))))) := by
  have hp := p100 a t
  have h5 : t ≤ 4 := by omega
  refine wa_aload_n dJ6_getChars_ba4f3_72 rfl ?_
  refine wa_iinc (y := (-1)) dJ6_getChars_ba4f3_73 rfl (by decide) (h4 _) ?_
  rw [nI_m1s (k := e - (2 * t)) (by omega), show e - (2 * t) - 1 = e - (2 * t + 1) by omega]
  refine wa_iload dJ6_getChars_ba4f3_76 rfl ?_
  refine wa_gets dJ6_getChars_ba4f3_78 (v := .ref (ab_CB + 132)) (by simp [ab_st]) fl_J6_83 (Or.inr (Nat.le_add_right _ _)) ?_
  refine wa_iload_n dJ6_getChars_ba4f3_81 rfl ?_
  refine wa_ineg dJ6_getChars_ba4f3_82 ?_
  rw [negneg]
  refine wa_bald (f := fun j => ab_do.getD j 0) (len := 100) (j := c) dJ6_getChars_ba4f3_83 (Or.inr ⟨132, Or.inr (by decide), by decide, rfl, kup (by omega) hk2⟩) (kup (by omega) hk2) (nI_toInt (by omega)) (by omega) ?_
  rw [do_at (r := c) (by omega)]
  refine wa_bast (f := gch f a e (2 * t)) (len := L) (j := e - (2 * t + 1)) dJ6_getChars_ba4f3_84 hb (ab_up_s _ _ _) (nI_toInt (by omega)) (by omega) ?_
  rw [up_up, nb_dig (x := c % 10) (by omega), gch_s (by omega) (by rw [hc])]
  refine wa_iload_n dJ6_getChars_ba4f3_85 rfl ?_
  refine wa_bipush (x := (-9)) dJ6_getChars_ba4f3_86 (by decide) ?_
  refine wa_icmp_ge 104 dJ6_getChars_ba4f3_88 rfl (fun c88 => ?_) (fun c88 => ?_)
  · have h9 : c ≤ 9 := (neg_le (a := 9) (by decide) (by omega)).mp (show -nI 9 ≤ -nI c from c88)
    have eD : dk 10 a + 1 = 2 * t + 1 := by rw [dk_uni (m := 2 * t) (dig_lo hc (by omega)) (dig_hi hc (by omega))]
    by_cases hs0 : s = 0
    · subst hs0
      refine wa_iload dJ6_getChars_ba4f3_104 rfl ?_
      refine wa_if_eq 118 dJ6_getChars_ba4f3_106 rfl (fun c106 => ?_) (fun c106 => absurd rfl c106)
      refine wa_iload dJ6_getChars_ba4f3_118 rfl ?_
      exact wa_ireturn dJ6_getChars_ba4f3_120 (by
        have : gfin f a e 0 = gch f a e (2 * t + 1) := (if_pos rfl).trans (by rw [eD])
        rw [this, eD] at hQ
        exact hQ)
    have hs1 : s = 1 := by omega
    subst hs1
    refine wa_iload dJ6_getChars_ba4f3_104 rfl ?_
    refine wa_if_eq 118 dJ6_getChars_ba4f3_106 rfl (fun c106 => absurd c106 (by decide)) (fun c106 => ?_)
    refine wa_aload_n dJ6_getChars_ba4f3_109 rfl ?_
    refine wa_iinc (y := (-1)) dJ6_getChars_ba4f3_110 rfl (by decide) (h4 _) ?_
    rw [nI_m1s (k := e - (2 * t + 1)) (by omega), show e - (2 * t + 1) - 1 = e - (2 * t + 1 + 1) by omega]
    refine wa_iload dJ6_getChars_ba4f3_113 rfl ?_
    refine wa_bipush (x := 45) dJ6_getChars_ba4f3_115 (by decide) ?_
    refine wa_bast (f := gch f a e (2 * t + 1)) (len := L) (j := e - (2 * t + 1 + 1)) dJ6_getChars_ba4f3_117 hb (ab_up_s _ _ _) (nI_toInt (by omega)) (by omega) ?_
    rw [up_up, show vp_nar .byte 45 = 45 from by decide]
    refine wa_iload dJ6_getChars_ba4f3_118 rfl ?_
    exact wa_ireturn dJ6_getChars_ba4f3_120 (by
      have : gfin f a e 1 = upd (gch f a e (2 * t + 1)) (e - (2 * t + 1 + 1)) 45 := (if_neg (by decide)).trans (by rw [show dk 10 a + 2 = dk 10 a + 1 + 1 from rfl, eD])
      rw [this, eD] at hQ
      exact hQ)
  have h10 : 10 ≤ c := by
    refine Nat.lt_of_not_le (fun z => c88 (show -nI 9 ≤ -nI c from (neg_le (a := 9) (by decide) (by omega)).mpr z))
  have eD : dk 10 a + 1 = 2 * t + 1 + 1 := by rw [dk_uni (m := 2 * t + 1) (dig_lo2 hc h10) (dig_hi2 hc hc9)]
  refine wa_aload_n dJ6_getChars_ba4f3_91 rfl ?_
  refine wa_iinc (y := (-1)) dJ6_getChars_ba4f3_92 rfl (by decide) (h4 _) ?_
  rw [nI_m1s (k := e - (2 * t + 1)) (by omega), show e - (2 * t + 1) - 1 = e - (2 * t + 1 + 1) by omega]
  refine wa_iload dJ6_getChars_ba4f3_95 rfl ?_
  refine wa_gets dJ6_getChars_ba4f3_97 (v := .ref (ab_CB + 133)) (by simp [ab_st]) fl_J6_87 (Or.inr (Nat.le_add_right _ _)) ?_
  refine wa_iload_n dJ6_getChars_ba4f3_100 rfl ?_
  refine wa_ineg dJ6_getChars_ba4f3_101 ?_
  rw [negneg]
  refine wa_bald (f := fun j => ab_dt.getD j 0) (len := 100) (j := c) dJ6_getChars_ba4f3_102 (Or.inr ⟨133, Or.inr (by decide), by decide, rfl, kup (by omega) hk3⟩) (kup (by omega) hk3) (nI_toInt (by omega)) (by omega) ?_
  rw [dt_at (r := c) (by omega)]
  refine wa_bast (f := gch f a e (2 * t + 1)) (len := L) (j := e - (2 * t + 1 + 1)) dJ6_getChars_ba4f3_103 hb (ab_up_s _ _ _) (nI_toInt (by omega)) (by omega) ?_
  rw [up_up, nb_dig (x := c / 10) (by omega), gch_s (by omega) (by rw [hp.2, ← hc, Nat.mod_eq_of_lt (a := c / 10) (by omega)])]
  by_cases hs0 : s = 0
  · subst hs0
    refine wa_iload dJ6_getChars_ba4f3_104 rfl ?_
    refine wa_if_eq 118 dJ6_getChars_ba4f3_106 rfl (fun c106 => ?_) (fun c106 => absurd rfl c106)
    refine wa_iload dJ6_getChars_ba4f3_118 rfl ?_
    exact wa_ireturn dJ6_getChars_ba4f3_120 (by
      have : gfin f a e 0 = gch f a e (2 * t + 1 + 1) := (if_pos rfl).trans (by rw [eD])
      rw [this, eD] at hQ
      exact hQ)
  have hs1 : s = 1 := by omega
  subst hs1
  refine wa_iload dJ6_getChars_ba4f3_104 rfl ?_
  refine wa_if_eq 118 dJ6_getChars_ba4f3_106 rfl (fun c106 => absurd c106 (by decide)) (fun c106 => ?_)
  refine wa_aload_n dJ6_getChars_ba4f3_109 rfl ?_
  refine wa_iinc (y := (-1)) dJ6_getChars_ba4f3_110 rfl (by decide) (h4 _) ?_
  rw [nI_m1s (k := e - (2 * t + 1 + 1)) (by omega), show e - (2 * t + 1 + 1) - 1 = e - (2 * t + 1 + 1 + 1) by omega]
  refine wa_iload dJ6_getChars_ba4f3_113 rfl ?_
  refine wa_bipush (x := 45) dJ6_getChars_ba4f3_115 (by decide) ?_
  refine wa_bast (f := gch f a e (2 * t + 1 + 1)) (len := L) (j := e - (2 * t + 1 + 1 + 1)) dJ6_getChars_ba4f3_117 hb (ab_up_s _ _ _) (nI_toInt (by omega)) (by omega) ?_
  rw [up_up, show vp_nar .byte 45 = 45 from by decide]
  refine wa_iload dJ6_getChars_ba4f3_118 rfl ?_
  exact wa_ireturn dJ6_getChars_ba4f3_120 (by
    have : gfin f a e 1 = upd (gch f a e (2 * t + 1 + 1)) (e - (2 * t + 1 + 1 + 1)) 45 := (if_neg (by decide)).trans (by rw [show dk 10 a + 2 = dk 10 a + 1 + 1 from rfl, eD])
    rw [this, eD] at hQ
    exact hQ)

