/-! ValveRoom: requireRange, roomAt. Written by program (wip/whole/gen/m780.py) but for the heads. -/
theorem xk_IAE : ab_xk RX6 "java/lang/IllegalArgumentException" 333 337 := ⟨by decide +kernel, by decide +kernel, by decide +kernel, by decide +kernel, by decide +kernel⟩
theorem xk_IOB : ab_xk RX6 "java/lang/IndexOutOfBoundsException" 324 328 := ⟨by decide +kernel, by decide +kernel, by decide +kernel, by decide +kernel, by decide +kernel⟩
theorem vr_range {n : Nat} {S : SS} {x a b : Int32} (h1 : a ≤ x) (h2 : x ≤ b) : AM yX6_requireRange cX6_requireRange 3 none [] 0 0 0 [.int x, .int a, .int b] n (Hp S) (PV n S) := by
  intro has
  change WA RX6 cX6_requireRange 3 [] _ _ 0 0 0 [some (.int x), some (.int a), some (.int b)] [] n _
  refine wa_iload_n dX6_requireRange_0 rfl ?_
  refine wa_iload_n dX6_requireRange_1 rfl ?_
  refine wa_icmp_lt 10 dX6_requireRange_2 rfl (fun c2 => absurd h1 (Int32.not_le.mpr c2)) (fun c2 => ?_)
  refine wa_iload_n dX6_requireRange_5 rfl ?_
  refine wa_iload_n dX6_requireRange_6 rfl ?_
  refine wa_icmp_le 21 dX6_requireRange_7 rfl (fun c7 => ?_) (fun c7 => absurd h2 c7)
  exact wa_return dX6_requireRange_21 ⟨Nat.le_refl _, Nat.le_refl _, rfl, rfl, rfl, rfl⟩
theorem vr_rangeX {n : Nat} {S : SS} {x a b : Int32} (h1 : ¬ (a ≤ x ∧ x ≤ b)) : AM yX6_requireRange cX6_requireRange 3 none [] 0 1 6 [.int x, .int a, .int b] n (Hp S) (PX "java/lang/IllegalArgumentException" n S) := by
  intro has
  change WA RX6 cX6_requireRange 3 [] _ _ 0 0 0 [some (.int x), some (.int a), some (.int b)] [] n _
  refine wa_iload_n dX6_requireRange_0 rfl ?_
  refine wa_iload_n dX6_requireRange_1 rfl ?_
  refine wa_icmp_lt 10 dX6_requireRange_2 rfl (fun c2 => ?_) (fun c2 => ?_)
  · exact wa_throwW xk_IAE (j := 9) rfl dX6_requireRange_10 dX6_requireRange_13 dX6_requireRange_14 dX6_requireRange_17 dX6_requireRange_20 (by decide) (by unfold ab_rm; refine ⟨?_, ?_, ?_, ?_⟩ <;> simp) ⟨Nat.le_refl _, Nat.le_refl _, trivial, rfl, rfl, rfl⟩
  · refine wa_iload_n dX6_requireRange_5 rfl ?_
    refine wa_iload_n dX6_requireRange_6 rfl ?_
    refine wa_icmp_le 21 dX6_requireRange_7 rfl (fun c7 => absurd ⟨Int32.not_lt.mp c2, c7⟩ h1) (fun c7 => ?_)
    exact wa_throwW xk_IAE (j := 9) rfl dX6_requireRange_10 dX6_requireRange_13 dX6_requireRange_14 dX6_requireRange_17 dX6_requireRange_20 (by decide) (by unfold ab_rm; refine ⟨?_, ?_, ?_, ?_⟩ <;> simp) ⟨Nat.le_refl _, Nat.le_refl _, trivial, rfl, rfl, rfl⟩
