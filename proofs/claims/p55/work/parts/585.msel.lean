/-! ValveRoomModel: the rooms compared; the rest of its answers. Written by program (wip/whole/gen/m585.py) but for the heads. -/
theorem nI_m1 {b : Nat} (h : b < 2 ^ 31) : ¬ nI b = -1 := fun z => by
  have := congrArg Int32.toInt z
  rw [nI_toInt h] at this
  have e : (-1 : Int32).toInt = -1 := by decide
  omega
