/-! Integer: getChars, all of it; StringBuilder: append of a number. Written by program (wip/whole/gen/m846.py) but for the heads. -/
theorem dk_ge {a m : Nat} (h : 10 ^ m ≤ a) : m ≤ dk 10 a := Nat.le_of_not_lt (fun z => by
  have h3 := (dk_ok (B := 10) (by decide) a).2
  have h4 : (10 : Nat) ^ (dk 10 a + 1) ≤ 10 ^ m := Nat.pow_le_pow_right (by decide) z
  omega)
theorem up_same {h : ab_H} {b : Nat} {x : va_E} (hb : h b = x) : ab_up h b x = h := by
  funext k
  unfold ab_up
  by_cases hk : k = b
  · rw [if_pos hk, hk, hb]
  · exact if_neg hk
theorem lp_gloop {Q : ab_Q} {n a b L e s : Nat} {h : ab_H} {f : Nat → Int32} (hb : b < n) (ha : a < 100000000) (he : e ≤ L) (hL : L < 1000000) (hs : s ≤ 1) (hl : dk 10 a + 1 + s ≤ e) (hnb : n ≤ ab_CB) (hk2 : h (ab_CB + 132) = ab_kc 132) (hk3 : h (ab_CB + 133) = ab_kc 133) (hQ : Q (.inl (some (.int (nI (e - (dk 10 a + 1 + s)))))) 0 0 n (ab_up h b (.inl (1, L, .inl (gfin f a e s))))) : ∀ (r c t : Nat) (l3 l4 : Option Value), (∀ y x : Int32, ab_c1 [some (.int y), some (.int (nI e)), some (.ref b), l3, l4, some (.int x), some (.int (nI s))] 5 = true) → c = a / 10 ^ (2 * t) → c < 100 ^ r → (1 ≤ c ∨ t = 0) → WA RJ6 cJ6_getChars_ba4f3 7 [] (ab_rm 0 0 0) Q 0 0 22 [some (.int (-nI c)), some (.int (nI e)), some (.ref b), l3, l4, some (.int (nI (e - 2 * t))), some (.int (nI s))] [] n (ab_up h b (.inl (1, L, .inl (gch f a e (2 * t))))) := by
  have h7 := dk_le (B := 10) (a := a) (m := 7) (by decide) (by omega)
  intro r
  induction r with
  | zero =>
    intro c t l3 l4 h4 hc hr hc1
    have hca : c ≤ a := by rw [hc]; exact Nat.div_le_self _ _
    have ht3 : 2 * t ≤ dk 10 a := by
      rcases dig_lo hc hc1 with z | z
      · exact dk_ge z
      · omega
    by_cases h9 : c < 100
    · skip
      refine wa_iload_n dJ6_getChars_ba4f3_22 rfl ?_
      refine wa_bipush (x := (-100)) dJ6_getChars_ba4f3_23 (by decide) ?_
      refine wa_icmp_gt 72 dJ6_getChars_ba4f3_25 rfl (fun c25 => ?_) (fun c25 => absurd (show -nI 100 < -nI c from (neg_lt (a := 100) (by decide) (by omega)).mpr h9) c25)
      exact lp_gexit hb ha he hL hs hl hnb hk2 hk3 (h4 _) hc h9 hc1 (by omega) (by omega) (fun z => by have := dk_ge (m := 2 * t + 1) (Or.resolve_right (dig_lo2 hc z) (by omega)); omega) hQ
    exact absurd hr (by omega)
  | succ r ih =>
    intro c t l3 l4 h4 hc hr hc1
    have hca : c ≤ a := by rw [hc]; exact Nat.div_le_self _ _
    have hp := p100 a t
    have ht3 : 2 * t ≤ dk 10 a := by
      rcases dig_lo hc hc1 with z | z
      · exact dk_ge z
      · omega
    by_cases h9 : c < 100
    · skip
      refine wa_iload_n dJ6_getChars_ba4f3_22 rfl ?_
      refine wa_bipush (x := (-100)) dJ6_getChars_ba4f3_23 (by decide) ?_
      refine wa_icmp_gt 72 dJ6_getChars_ba4f3_25 rfl (fun c25 => ?_) (fun c25 => absurd (show -nI 100 < -nI c from (neg_lt (a := 100) (by decide) (by omega)).mpr h9) c25)
      exact lp_gexit hb ha he hL hs hl hnb hk2 hk3 (h4 _) hc h9 hc1 (by omega) (by omega) (fun z => by have := dk_ge (m := 2 * t + 1) (Or.resolve_right (dig_lo2 hc z) (by omega)); omega) hQ
    have ht4 : 2 * t + 1 ≤ dk 10 a := dk_ge (Or.resolve_right (dig_lo2 hc (by omega)) (by omega))
    refine wa_iload_n dJ6_getChars_ba4f3_22 rfl ?_
    refine wa_bipush (x := (-100)) dJ6_getChars_ba4f3_23 (by decide) ?_
    refine wa_icmp_gt 72 dJ6_getChars_ba4f3_25 rfl (fun c25 => absurd ((neg_lt (a := 100) (by decide) (by omega)).mp (show -nI 100 < -nI c from c25)) (by omega)) (fun c25 => ?_)
    refine wa_iload_n dJ6_getChars_ba4f3_28 rfl ?_
    refine wa_bipush (x := 100) dJ6_getChars_ba4f3_29 (by decide) ?_
    refine wa_idiv dJ6_getChars_ba4f3_31 (by decide) ?_
    rw [neg_div (by omega)]
    refine wa_istore_n dJ6_getChars_ba4f3_32 rfl ?_
    refine wa_iload_n dJ6_getChars_ba4f3_33 rfl ?_
    refine wa_bipush (x := 100) dJ6_getChars_ba4f3_34 (by decide) ?_
    refine wa_imul dJ6_getChars_ba4f3_36 ?_
    refine wa_iload_n dJ6_getChars_ba4f3_37 rfl ?_
    refine wa_isub dJ6_getChars_ba4f3_38 ?_
    rw [neg_rem (by omega)]
    refine wa_istore dJ6_getChars_ba4f3_39 rfl ?_
    refine wa_iload_n dJ6_getChars_ba4f3_41 rfl ?_
    refine wa_istore_n dJ6_getChars_ba4f3_42 rfl ?_
    refine wa_aload_n dJ6_getChars_ba4f3_43 rfl ?_
    refine wa_iinc (y := (-1)) dJ6_getChars_ba4f3_44 rfl (by decide) rfl ?_
    rw [nI_m1s (k := e - (2 * t)) (by omega), show e - (2 * t) - 1 = e - (2 * t + 1) by omega]
    refine wa_iload dJ6_getChars_ba4f3_47 rfl ?_
    refine wa_gets dJ6_getChars_ba4f3_49 (v := .ref (ab_CB + 132)) (by simp [ab_st]) fl_J6_83 (Or.inr (Nat.le_add_right _ _)) ?_
    refine wa_iload dJ6_getChars_ba4f3_52 rfl ?_
    refine wa_bald (f := fun j => ab_do.getD j 0) (len := 100) (j := c % 100) dJ6_getChars_ba4f3_54 (Or.inr ⟨132, Or.inr (by decide), by decide, rfl, kup (by omega) hk2⟩) (kup (by omega) hk2) (nI_toInt (by omega)) (by omega) ?_
    rw [do_at (r := c % 100) (by omega)]
    refine wa_bast (f := gch f a e (2 * t)) (len := L) (j := e - (2 * t + 1)) dJ6_getChars_ba4f3_55 hb (ab_up_s _ _ _) (nI_toInt (by omega)) (by omega) ?_
    rw [up_up, nb_dig (x := c % 100 % 10) (by omega), gch_s (by omega) (by rw [← hc, Nat.mod_mod_of_dvd c (by decide : 10 ∣ 100)])]
    refine wa_aload_n dJ6_getChars_ba4f3_56 rfl ?_
    refine wa_iinc (y := (-1)) dJ6_getChars_ba4f3_57 rfl (by decide) rfl ?_
    rw [nI_m1s (k := e - (2 * t + 1)) (by omega), show e - (2 * t + 1) - 1 = e - (2 * t + 1 + 1) by omega]
    refine wa_iload dJ6_getChars_ba4f3_60 rfl ?_
    refine wa_gets dJ6_getChars_ba4f3_62 (v := .ref (ab_CB + 133)) (by simp [ab_st]) fl_J6_87 (Or.inr (Nat.le_add_right _ _)) ?_
    refine wa_iload dJ6_getChars_ba4f3_65 rfl ?_
    refine wa_bald (f := fun j => ab_dt.getD j 0) (len := 100) (j := c % 100) dJ6_getChars_ba4f3_67 (Or.inr ⟨133, Or.inr (by decide), by decide, rfl, kup (by omega) hk3⟩) (kup (by omega) hk3) (nI_toInt (by omega)) (by omega) ?_
    rw [dt_at (r := c % 100) (by omega)]
    refine wa_bast (f := gch f a e (2 * t + 1)) (len := L) (j := e - (2 * t + 1 + 1)) dJ6_getChars_ba4f3_68 hb (ab_up_s _ _ _) (nI_toInt (by omega)) (by omega) ?_
    rw [up_up, nb_dig (x := c % 100 / 10) (by omega), gch_s (by omega) (by rw [hp.2, ← hc]; congr 2; omega)]
    refine wa_goto 22 dJ6_getChars_ba4f3_69 rfl ?_
    rw [show 2 * t + 1 + 1 = 2 * (t + 1) by omega]
    exact ih (c / 100) (t + 1) _ _ (fun _ _ => rfl) (by rw [hc]; exact hp.1) (by rw [Nat.pow_succ] at hr; omega) (Or.inl (by omega))

