/-! ValveRoom: writeOneRoom. Written by program (wip/whole/gen/m852.py) but for the heads. -/
theorem WB.lt {n0 n k z j : Nat} {S0 S : SS} {f : Nat → Int32} {l : List Int32} (h : WB n0 S0 n S j f l k z) (h0 : 269 ≤ n0) (h1 : n0 + 7 ≤ ab_CB) : 269 ≤ n ∧ n + 1 < ab_CB ∧ k ≤ 5 ∧ z ≤ 1200 := by
  obtain ⟨a, b, c, d, e1, e2, e3⟩ := h
  have : cpS j ≤ 574 := (by decide : ∀ i, i < 6 → cpS i ≤ 574) j (by omega)
  omega
