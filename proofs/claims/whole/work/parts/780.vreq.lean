/-! ValveRoom: requireRange, roomAt. Written by program (wip/whole/gen/m780.py) but for the heads. -/
theorem vr_range {n : Nat} {S : SS} {x a b : Int32} (h1 : a ≤ x) (h2 : x ≤ b) : AM yX6_requireRange cX6_requireRange 3 none [] 0 0 0 [.int x, .int a, .int b] n (Hp S) (PV n S) := by
  intro has
  change WA RX6 cX6_requireRange 3 [] _ _ 0 0 0 [some (.int x), some (.int a), some (.int b)] [] n _
  refine wa_iload_n dX6_requireRange_0 rfl ?_
  refine wa_iload_n dX6_requireRange_1 rfl ?_
  refine wa_icmp_lt 10 dX6_requireRange_2 rfl (fun c2 => absurd h1 (Int32.not_le.mpr c2)) (fun c2 => ?_)
  refine wa_iload_n dX6_requireRange_5 rfl ?_
  refine wa_iload_n dX6_requireRange_6 rfl ?_
  refine wa_icmp_le 21 dX6_requireRange_7 rfl (fun c7 => ?_) (fun c7 => absurd h2 c7)
  exact wa_return dX6_requireRange_21 ⟨Nat.le_refl _, Nat.le_refl _, rfl, rfl, rfl, rfl⟩
