/-! ValveRoom: writeRooms. Written by program (wip/whole/gen/m854.py) but for the heads. -/
theorem WB.st {n m j : Nat} {S : SS} {f : Nat → Int32} (h : SBI n S m j f) (hj : j ≤ 5) (h0 : m = 0) : WB n S n S j f [] 0 0 := by
  subst h0
  exact ⟨h, fun i c hc => by simp at hc, FRb.rf, by omega, by omega⟩
