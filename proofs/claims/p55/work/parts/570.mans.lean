/-! ValveRoomModel: its answers. Written by program (wip/whole/gen/m570.py) but for the heads. -/
theorem nI_inj {a b : Nat} (ha : a < 2 ^ 31) (hb : b < 2 ^ 31) (h : nI a = nI b) : a = b := by
  have e := congrArg Int32.toInt h
  rw [nI_toInt ha, nI_toInt hb] at e
  omega
theorem b2i_1 {P : Prop} [Decidable P] (h : P) : b2i P = 1 := if_pos h
theorem b2i_0 {P : Prop} [Decidable P] (h : ¬ P) : b2i P = 0 := if_neg h
