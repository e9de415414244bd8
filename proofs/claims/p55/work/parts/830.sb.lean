/-! StringBuilder: its bytes, how they grow; one letter appended. Written by program (wip/whole/gen/m830.py) but for the heads. -/
theorem hp_lx (S : SS) {k : Nat} (h : k = 268 ∨ 269 ≤ k) (hk : k < ab_CB) : Hp S k = ltc S k := by
  rcases h with rfl | h
  · rfl
  · exact hp_lt S h hk
theorem hp_slx {S : SS} {n : Nat} {e : va_E} (h : n = 268 ∨ 269 ≤ n) (hn : n < ab_CB) : ab_up (Hp S) n e = Hp (sl S (fun k => if k = n then e else ltc S k)) := by
  rcases h with rfl | h
  · funext k
    unfold ab_up
    by_cases hk : k = 268
    · subst hk
      rw [if_pos rfl]
      rfl
    · rw [if_neg hk]
      unfold Hp ly_mk sl
      dsimp only
      rw [show (if k = 268 then e else ltc S k) = ltc S k from if_neg hk]
      unfold ly_h ly_VR ly_PA ly_HO ly_RO ly_TO ly_SB ltc
      rfl
  · exact hp_sl h hn
/-- the builder's bytes lie at a -/
def sbs (S : SS) (a : Nat) : SS := (S.1, S.2.1, (S.2.2.1, S.2.2.2.1, S.2.2.2.2.1, a, S.2.2.2.2.2.2))
theorem hp_sbs (S : SS) (a : Nat) : ab_up (Hp S) 267 (.inr (7, [.ref a, .int 0, .int (S.1 267 2), .int (S.1 267 3)])) = Hp (sbs S a) := by
  funext k
  unfold ab_up
  by_cases hk : k = 267
  · subst hk
    rw [if_pos rfl]
    rfl
  · rw [if_neg hk]
    unfold Hp ly_mk sbs
    dsimp only
    by_cases h26 : k < 26
    · unfold ly_h ly_VR ly_PA ly_HO ly_RO
      simp only [h26, if_true]
    unfold ly_h ly_VR ly_PA ly_HO ly_RO ly_TO 
    simp only [hk, if_false]
def cpS (j : Nat) : Nat := 18 * 2 ^ j - 2
theorem cpS_s (j : Nat) : cpS (j + 1) = 2 * cpS j + 2 ∧ 16 ≤ cpS j := by
  have : 1 ≤ 2 ^ j := Nat.one_le_two_pow
  unfold cpS
  rw [Nat.pow_succ]
  omega
theorem cpS_le {j : Nat} (h : j ≤ 8) : cpS j ≤ 4606 := (by decide : ∀ j, j < 9 → cpS j ≤ 4606) j (by omega)
def grw (j m : Nat) : Nat := if m ≤ cpS j then 0 else 1
def grs (j m : Nat) : Nat := if m ≤ cpS j then 0 else cpS (j + 1)
/-- m letters stand in the builder, room for cpS j -/
def SBI (n : Nat) (S : SS) (m j : Nat) (f : Nat → Int32) : Prop := ((sbr S = 268 ∨ 269 ≤ sbr S) ∧ sbr S < n ∧ n ≤ ab_CB) ∧ ltc S (sbr S) = .inl (1, cpS j, .inl f) ∧ S.1 267 3 = nI m ∧ (m ≤ cpS j ∧ j ≤ 7) ∧ ∀ i, 0 ≤ (f i).toInt ∧ (f i).toInt < 128
/-- what the builder's work leaves as it was -/
def FRb (n : Nat) (S0 S : SS) : Prop := (S.2.2.1 = S0.2.2.1 ∧ S.2.2.2.1 = S0.2.2.2.1 ∧ S.2.2.2.2.1 = S0.2.2.2.2.1 ∧ S.2.2.2.2.2.2.2 = S0.2.2.2.2.2.2.2 ∧ (sbr S = sbr S0 ∨ n ≤ sbr S) ∧ ∀ k, k < n → ¬ k = sbr S0 → ltc S k = ltc S0 k) ∧ (∀ a, ¬ a = 267 → S.1 a = S0.1 a) ∧ S.2.1 = S0.2.1
theorem FRb.rf {n : Nat} {S : SS} : FRb n S S := ⟨⟨rfl, rfl, rfl, rfl, Or.inl rfl, fun _ _ _ => rfl⟩, fun _ _ => rfl, rfl⟩
theorem FRb.tr {n n' : Nat} {S0 S1 S2 : SS} (h1 : FRb n S0 S1) (h2 : FRb n' S1 S2) (hn : n ≤ n') : FRb n S0 S2 := by
  obtain ⟨⟨a1, a2, a3, a4, a5, a6⟩, b, c⟩ := h1
  obtain ⟨⟨a1', a2', a3', a4', a5', a6'⟩, b', c'⟩ := h2
  refine ⟨⟨a1'.trans a1, a2'.trans a2, a3'.trans a3, a4'.trans a4, by omega, fun k hk hs => ?_⟩, fun a ha => (b' a ha).trans (b a ha), c'.trans c⟩
  rw [a6' k (by omega) (by omega), a6 k hk hs]
theorem fits_b {x : Int32} (h : 0 ≤ x.toInt ∧ x.toInt < 128) : fits .byte (.int x) = true ∧ vp_nar .byte x = x := by
  obtain ⟨e, -⟩ := nI_of_nn h.1
  rw [e]
  exact (by decide : ∀ k, k < 128 → fits .byte (.int (nI k)) = true ∧ vp_nar .byte (nI k) = nI k) _ (by omega)
theorem shr_0 (x : Int32) : x >>> ((0 : Int32) &&& 31) = x := shr0 x

