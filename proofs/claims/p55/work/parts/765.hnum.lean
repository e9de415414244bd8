/-! ValveRoom$House: numberOf. Written by program (wip/whole/gen/m765.py) but for the heads. -/
section CSN
variable {own : String} {cc : ByteArray} {nL : Nat} {hh : List (Nat × Nat × Nat × Nat)} {R : Room} {Q : ab_Q} {k z pc : Nat} {ls : List (Option Value)} {st stk : List Value} {n : Nat} {h : ab_H}
variable {index : Nat} {y : MethodName} {cc2 : ByteArray} {maxL2 : Nat} {ret2 : Option FieldType} {d mc ms : Nat} {As : List Value}
/-- a call of a nestmate's static method -/
theorem c_SNh {v : Value} {host : String} (dd : decode cc pc = .ok (.invokestatic index, 3)) (hA : AM y cc2 maxL2 ret2 [] d mc ms As n h (fun r n2 h2 => r = .inl (some v) ∧ n2 = n ∧ h2 = h)) (lk : ab_lkSN own index y host cc2 maxL2 ret2 As.length) (hst : stk = As.reverse ++ st)
    (K : WA own cc nL hh R Q (k + mc) (z + ms) (pc + 3) ls (v :: st) n h) (hlen : (ab_el As).length ≤ maxL2 := by exact Nat.le_of_ble_eq_true rfl) (hR : ab_fit R d maxL2 mc ms k z := by unfold ab_fit ab_rm; refine ⟨?_, ?_, ?_, ?_⟩ <;> simp <;> omega) (hrest : (st.map fun v => v.category).sum ≤ 8 := by exact Nat.le_of_ble_eq_true rfl) : WA own cc nL hh R Q k z pc ls stk n h :=
  wa_callSN dd lk hA (fun E n' h' hq => by cases hq.1) hst hlen hR hrest (fun ro n' h' hq _ => by obtain ⟨h1, rfl, rfl⟩ := hq; cases h1; exact K)
end CSN
/-- the l bytes from p on spell the name s -/
abbrev SPL (f : Nat → Int32) (p l : Nat) (s : Nat → Int32) (len : Nat) : Prop := l = len ∧ ∀ j, j < len → f (p + j) = s j
/-- the names of a House's first c rooms -/
def NMS (n : Nat) (S : SS) (a c : Nat) (nf : Nat → Nat → Int32) (nl : Nat → Nat) : Prop := ∀ i, i < c → STR n (Hp S) (S.2.1 (a + 5 + 3 * i)) (nl i) (nf i) ∧ ∀ j, j < nl i → 0 ≤ (nf i j).toInt ∧ (nf i j).toInt < 128
theorem lp_numOf {Q : ab_Q} {v : Int32} {n a b L p l : Nat} {S : SS} {g : Nat → Int32} {P : Nat → Prop} {f : Nat → Int32} {nf : Nat → Nat → Int32} {nl : Nat → Nat} (hn : 269 ≤ n) (h : HH S a g P) (e0 : g 0 = nI (rn g)) (hN : NMS n S a (rn g) nf nl) (hb : ab_dom n (Hp S) b) (hbe : (Hp S) b = .inl (1, L, .inl f)) (hL : L < 2 ^ 31) (hp : p + l ≤ L) (hQ : Q (.inl (some (.int v))) 0 0 n (Hp S)) :
    ∀ (r k : Nat), k + r = rn g → fst (fun i => SPL f p l (nf i) (nl i)) r k = v → WA RX1 cX1_numberOf 5 [] (ab_rm 5 0 0) Q 0 0 3 [some (.ref a), some (.ref b), some (.int (nI p)), some (.int (nI l)), some (.int (nI (k)))] [] n (Hp S) := by
  intro r
  induction r with
  | zero =>
    intro k hk
    have hk' : rn g = k := by omega
    
    intro he
    have hk2 : k = rn g := hk'.symm
    refine wa_iload dX1_numberOf_3 rfl ?_
    refine wa_aload_n dX1_numberOf_5 rfl ?_
    refine H_hd h hn 9 dX1_numberOf_6 fl_X1_59 (by decide) (by decide) (fun _ _ _ => rfl) ?_
    rw [show g (hm 9) = nI (rn g) from e0]
    refine wa_icmp_ge 40 dX1_numberOf_9 rfl (fun c9 => ?_) (fun c9 => absurd (by rw [hk2]; exact Int32.le_refl _) c9)
    refine wa_iconst (x := (-1)) dX1_numberOf_40 (by decide) ?_
    rw [show (-1 : Int32) = v from he]
    exact wa_ireturn dX1_numberOf_41 hQ
  | succ r ih =>
    intro k hk
    intro he
    have h6 := h.1.2.1
    refine wa_iload dX1_numberOf_3 rfl ?_
    refine wa_aload_n dX1_numberOf_5 rfl ?_
    refine H_hd h hn 9 dX1_numberOf_6 fl_X1_59 (by decide) (by decide) (fun _ _ _ => rfl) ?_
    rw [show g (hm 9) = nI (rn g) from e0]
    refine wa_icmp_ge 40 dX1_numberOf_9 rfl (fun c9 => absurd c9 (Int32.not_le.mpr (nI_lt (by omega) (by omega)))) (fun c9 => ?_)
    refine wa_aload_n dX1_numberOf_12 rfl ?_
    refine wa_iload_n dX1_numberOf_13 rfl ?_
    refine wa_iload_n dX1_numberOf_14 rfl ?_
    refine wa_aload_n dX1_numberOf_15 rfl ?_
    refine g_HO h.H hn 10 dX1_numberOf_16 fl_X1_11 (by decide) rfl ?_
    refine wa_iload dX1_numberOf_19 rfl ?_
    refine L_room h.H hn (ix_nI (by omega)) (by omega) dX1_numberOf_21 ?_
    refine g_RO (h.H.R (i := k) (by omega)) hn 0 dX1_numberOf_22 fl_X1_75 (by decide) (v := .ref (S.2.1 (a + 5 + 3 * k))) rfl ?_
    refine c_SNh dX1_numberOf_25 (vr_spells hb hbe hL (hN k (by omega)).1 (hN k (by omega)).2 hp) lk_X1_79 rfl ?_
    refine wa_if_eq 34 dX1_numberOf_28 rfl (fun c28 => ?_) (fun c28 => ?_)
    · refine wa_iinc (y := 1) dX1_numberOf_34 rfl (by decide) rfl ?_
      refine wa_goto 3 dX1_numberOf_37 rfl ?_
      have e9 : fst (fun i => SPL f p l (nf i) (nl i)) (r + 1) k = fst (fun i => SPL f p l (nf i) (nl i)) r (k + 1) := if_neg (c2i_f c28)
      rw [nI_1 k]
      exact ih (k + 1) (by omega) (e9.symm.trans he)
    · refine wa_iload dX1_numberOf_31 rfl ?_
      exact wa_ireturn dX1_numberOf_33 (by
        have e9 : fst (fun i => SPL f p l (nf i) (nl i)) (r + 1) k = nI k := if_pos (c2i_t c28)
        rw [← e9, he]; exact hQ)
theorem hh_numberOf {n a b L p l : Nat} {S : SS} {g : Nat → Int32} {P : Nat → Prop} {f : Nat → Int32} {nf : Nat → Nat → Int32} {nl : Nat → Nat} (hn : 269 ≤ n) (h : HH S a g P) (e0 : g 0 = nI (rn g)) (hN : NMS n S a (rn g) nf nl) (hb : ab_dom n (Hp S) b) (hbe : (Hp S) b = .inl (1, L, .inl f)) (hL : L < 2 ^ 31) (hp : p + l ≤ L) : AM yX1_numberOf cX1_numberOf 5 (some .int) [] 5 0 0 [.ref a, .ref b, .int (nI p), .int (nI l)] n (Hp S) (PI (fst (fun i => SPL f p l (nf i) (nl i)) (rn g) 0) n S) := by
  intro has
  change WA RX1 cX1_numberOf 5 [] _ _ 0 0 0 [some (.ref a), some (.ref b), some (.int (nI p)), some (.int (nI l)), none] [] n _
  refine wa_iconst (x := 0) dX1_numberOf_0 (by decide) ?_
  refine wa_istore dX1_numberOf_1 rfl ?_
  exact lp_numOf hn h e0 hN hb hbe hL hp ⟨Nat.le_refl _, Nat.le_refl _, ⟨_, rfl, rfl⟩, rfl, rfl, rfl⟩ (rn g) 0 (Nat.zero_add _) rfl

