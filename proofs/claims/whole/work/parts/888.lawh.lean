/-! THE LAW'S CASES: what they need. -/
theorem th_0 (S : SS) (x : Int32) : (th S x).1 267 0 = x := ss_ee _ _ _ _
theorem AM.v {y : MethodName} {cc : ByteArray} {m : Nat} {r : Option FieldType} {hh : List (Nat × Nat × Nat × Nat)} {d mc ms n n2 : Nat} {as : List Value} {h : ab_H} {v v' : Int32} {S' : SS} (hA : AM y cc m r hh d mc ms as n h (PI v n2 S')) (e : v = v') : AM y cc m r hh d mc ms as n h (PI v' n2 S') := e ▸ hA
theorem h0C {S : SS} {c : Nat} (hc : c ≤ 6) (h18 : S.1 267 18 = nI c) (G : Nat → Int32) (v : Int64) : (so (su (f_rem (th S 0)) 268 G) v).1 267 0 = 0 := by
  obtain ⟨-, -, a3, -⟩ := frem (S := th S 0) hc ((th_k S 0 (by decide)).trans h18)
  show (su (f_rem (th S 0)) 268 G).1 267 0 = 0
  rw [su_n _ _ (by decide), a3 0 (by decide)]
  exact th_0 _ _
section LZ
variable {L : Nat} {xs : Nat → Int32} {Q : ab_Q} {k z pc n i : Nat} {a b c d : Option Value} {st : List Value} {h : ab_H} {S : SS}
theorem l_bz {x y : Int32} (hxy : (if x = 0 then (0 : Int32) else 1) = y) (d0 : decode cL_law pc = .ok (.ifCond .eq 7, 3)) (d1 : decode cL_law (pc + 3) = .ok (.iconst 1, 1)) (d2 : decode cL_law (pc + 4) = .ok (.goto 4, 3)) (d3 : decode cL_law (pc + 7) = .ok (.iconst 0, 1)) (K : LX L xs Q k z (pc + 8) (lsL i a b c d) (.int y :: st) n h) : LX L xs Q k z pc (lsL i a b c d) (.int x :: st) n h := by
  refine wa_if_eq (pc + 7) d0 (by omega) (fun e => ?_) (fun e => ?_)
  · refine wa_iconst (x := 0) d3 (by decide) ?_
    rw [if_pos e] at hxy
    rw [hxy]
    exact K
  · refine wa_iconst (x := 1) d1 (by decide) ?_
    rw [if_neg e] at hxy
    rw [hxy]
    exact wa_goto (pc + 8) d2 (by omega) K
theorem l_tailZ {y : Int32} {off : Int} (d0 : decode cL_law pc = .ok (.istore 7, 2)) (d1 : decode cL_law (pc + 2) = .ok (.aload_n 2, 1)) (d2 : decode cL_law (pc + 3) = .ok (.invokevirtual 159, 3)) (d3 : decode cL_law (pc + 6) = .ok (.iload 6, 2)) (d4 : decode cL_law (pc + 8) = .ok (.if_icmp .eq 5, 3)) (d5 : decode cL_law (pc + 13) = .ok (.iload 6, 2)) (d6 : decode cL_law (pc + 15) = .ok (.ifCond .ne 22, 3))
    (e0 : decode cL_law (pc + 18) = .ok (.aload_n 3, 1)) (e1 : decode cL_law (pc + 19) = .ok (.iconst 0, 1)) (e2 : decode cL_law (pc + 20) = .ok (.laload, 1)) (e3 : decode cL_law (pc + 21) = .ok (.iload 7, 2)) (e4 : decode cL_law (pc + 23) = .ok (.ifCond .eq 7, 3)) (f1 : decode cL_law (pc + 26) = .ok (.lconst 1, 1)) (f2 : decode cL_law (pc + 27) = .ok (.goto 4, 3)) (f3 : decode cL_law (pc + 30) = .ok (.lconst 0, 1)) (e5 : decode cL_law (pc + 31) = .ok (.lcmp, 1)) (e6 : decode cL_law (pc + 32) = .ok (.ifCond .eq 5, 3)) (d7 : decode cL_law (pc + 37) = .ok (.goto off, 3)) (ht : ((pc + 37 : Nat) : Int) + off = ((3100 : Nat) : Int)) (hn : 279 ≤ n) (h0 : S.1 267 0 = 0) (hout : S.2.2.2.2.2.2.2.1 = if y = 0 then 0 else 1) (hk : k ≤ 601024) (hz : z ≤ 7293034)
    (K : LX L xs Q k z 3100 (lsL i (some (.int 0)) (some (.int y)) c d) [] n (Hp S)) : LX L xs Q k z pc (lsL i (some (.int 0)) b c d) [.int y] n (Hp S) := by
  refine wa_istore d0 rfl ?_
  refine wa_aload_n d1 rfl ?_
  refine c_VI d2 (mm_thrown hn) lk_L_159 rfl (isO_MO _ _ _) rfl (ltS hn) ?_ (hR := fitL (by decide) (by decide) (by omega) (by omega))
  rw [h0]
  refine wa_iload d3 rfl ?_
  refine wa_icmp_eq (pc + 13) d4 (by omega) (fun _ => ?_) (fun z => absurd rfl z)
  refine wa_iload d5 rfl ?_
  refine wa_if_ne (pc + 37) d6 (by omega) (fun z => absurd rfl z) (fun _ => ?_)
  refine wa_aload_n e0 rfl ?_
  refine wa_iconst (x := 0) e1 (by decide) ?_
  refine wa_lald (len := 1) (j := 0) (f := fun _ => S.2.2.2.2.2.2.2.1) e2 (Or.inl (ltS hn)) rfl rfl (by decide) ?_
  rw [hout]
  refine wa_iload e3 rfl ?_
  refine wa_if_eq (pc + 30) e4 (by omega) (fun e => ?_) (fun e => ?_)
  · refine wa_lconst (x := 0) f3 (by decide) ?_
    rw [if_pos e]
    refine wa_lcmp e5 ?_
    rw [lg_cmp_rf]
    refine wa_if_eq (pc + 37) e6 (by omega) (fun _ => ?_) (fun z => absurd rfl z)
    exact wa_goto 3100 d7 ht K
  · refine wa_lconst (x := 1) f1 (by decide) ?_
    rw [if_neg e]
    refine wa_goto (pc + 31) f2 (by omega) ?_
    refine wa_lcmp e5 ?_
    rw [lg_cmp_rf]
    refine wa_if_eq (pc + 37) e6 (by omega) (fun _ => ?_) (fun z => absurd rfl z)
    exact wa_goto 3100 d7 ht K
end LZ
theorem i_fmod_i {x : Int32} (hx : -2147483648 ≤ x.toInt - 336) : (i_fmod x 336).toInt = x.toInt % 336 := by
  have k : (336 : Int32).toInt = 336 := by decide
  have hx1 := x.toInt_lt
  have hx2 := x.le_toInt
  have hd : (x / 336).toInt = x.toInt.tdiv 336 := by
    rw [Int32.toInt_div, k]
    refine Int.bmod_eq_of_le ?_ ?_
    · rcases Int.le_total 0 x.toInt with h | h
      · rw [Int.tdiv_eq_ediv_of_nonneg h]; omega
      · have e : x.toInt = -(-x.toInt) := by omega
        rw [e, Int.neg_tdiv, Int.tdiv_eq_ediv_of_nonneg (by omega)]; omega
    · rcases Int.le_total 0 x.toInt with h | h
      · rw [Int.tdiv_eq_ediv_of_nonneg h]; omega
      · have e : x.toInt = -(-x.toInt) := by omega
        rw [e, Int.neg_tdiv, Int.tdiv_eq_ediv_of_nonneg (by omega)]; omega
  have hq : (x.toInt.tdiv 336 = x.toInt / 336 ∧ 0 ≤ x.toInt) ∨ (x.toInt.tdiv 336 = -((-x.toInt) / 336) ∧ x.toInt < 0) := by
    rcases Int.lt_or_le x.toInt 0 with h | h
    · right
      have e : x.toInt = -(-x.toInt) := by omega
      refine ⟨?_, h⟩
      rw [show x.toInt.tdiv 336 = (-(-x.toInt)).tdiv 336 by rw [← e], Int.neg_tdiv, Int.tdiv_eq_ediv_of_nonneg (by omega)]
    · exact Or.inl ⟨Int.tdiv_eq_ediv_of_nonneg h, h⟩
  have hm : (x / 336 * 336).toInt = x.toInt.tdiv 336 * 336 := by
    rw [i_mul (by rw [hd, k]; omega) (by rw [hd, k]; omega), hd, k]
  have hs : (x - x / 336 * 336).toInt = x.toInt - x.toInt.tdiv 336 * 336 := by
    rw [i_sub (by rw [hm]; omega) (by rw [hm]; omega), hm]
  unfold i_fmod
  have hx0 : (x ^^^ 336) < 0 ↔ x.toInt < 0 := xor_neg x (by rw [k]; omega)
  have he : x - x / 336 * 336 = 0 ↔ x.toInt - x.toInt.tdiv 336 * 336 = 0 := by rw [← Int32.toInt_inj, hs]; exact Iff.rfl
  by_cases h : (x ^^^ 336) < 0 ∧ ¬ x - x / 336 * 336 = 0
  · rw [if_pos h]
    have h1 := hx0.mp h.1
    have h2 : ¬ x.toInt - x.toInt.tdiv 336 * 336 = 0 := fun z => h.2 (he.mpr z)
    rw [i_add (by rw [hs, k]; omega) (by rw [hs, k]; omega), hs, k]
    omega
  · rw [if_neg h, hs]
    by_cases h1 : x.toInt < 0
    · have h2 : x.toInt - x.toInt.tdiv 336 * 336 = 0 := Classical.byContradiction (fun z => h ⟨hx0.mpr h1, fun w => z (he.mp w)⟩)
      omega
    · omega
theorem ex_pure {t e : Int32} {r : Nat} (h0 : 0 ≤ t.toInt) (h1 : t.toInt ≤ 200000) (he : 0 ≤ e.toInt ∧ e.toInt ≤ 335) (hr : r < 6) : ∃ N : Nat, 1 ≤ N ∧ i_fmod (e + nI r - t - 1) 336 + 1 = nI N ∧ i_fmod (t + nI N - nI r) 336 = e ∧ ∀ m, m < N → 1 ≤ m → ¬ i_fmod (t + nI m - nI r) 336 = e := by
  have k1 : (1 : Int32).toInt = 1 := by decide
  have er : (nI r).toInt = (r : Int) := nI_toInt (by omega)
  have a1 : (e + nI r).toInt = e.toInt + r := by rw [i_add (by rw [er]; omega) (by rw [er]; omega), er]
  have a2 : (e + nI r - t).toInt = e.toInt + r - t.toInt := by rw [i_sub (by rw [a1]; omega) (by rw [a1]; omega), a1]
  have a3 : (e + nI r - t - 1).toInt = e.toInt + r - t.toInt - 1 := by rw [i_sub (by rw [a2, k1]; omega) (by rw [a2, k1]; omega), a2, k1]
  have a4 : (i_fmod (e + nI r - t - 1) 336).toInt = (e.toInt + r - t.toInt - 1) % 336 := by rw [i_fmod_i (by rw [a3]; omega), a3]
  have g : ∀ m : Nat, m ≤ 336 → (i_fmod (t + nI m - nI r) 336).toInt = (t.toInt + m - r) % 336 := fun m hm => by
    have em : (nI m).toInt = (m : Int) := nI_toInt (by omega)
    have b1 : (t + nI m).toInt = t.toInt + m := by rw [i_add (by rw [em]; omega) (by rw [em]; omega), em]
    have b2 : (t + nI m - nI r).toInt = t.toInt + m - r := by rw [i_sub (by rw [b1, er]; omega) (by rw [b1, er]; omega), b1, er]
    rw [i_fmod_i (by rw [b2]; omega), b2]
  refine ⟨((e.toInt + r - t.toInt - 1) % 336).toNat + 1, by omega, ?_, ?_, fun m hm h1m z => ?_⟩
  · rw [← Int32.toInt_inj, i_add (by rw [a4, k1]; omega) (by rw [a4, k1]; omega), a4, k1, nI_toInt (by omega)]
    omega
  · rw [← Int32.toInt_inj, g _ (by omega)]
    omega
  · have := congrArg Int32.toInt z
    rw [g m (by omega)] at this
    omega
theorem pl_t0 {t x : Int32} (h0 : 0 ≤ t.toInt) (h1 : t.toInt ≤ 200000) (h : inr x (t + 1) (t + 9999)) : 0 ≤ x.toInt ∧ x.toInt ≤ 300000 := by
  have k1 : (1 : Int32).toInt = 1 := by decide
  have k9 : (9999 : Int32).toInt = 9999 := by decide
  have h2 := (inr_i2 h).1
  have h3 := (inr_i2 h).2
  rw [i_add (by rw [k1]; omega) (by rw [k1]; omega), k1] at h2
  rw [i_add (by rw [k9]; omega) (by rw [k9]; omega), k9] at h3
  omega
