/-! ValveRoomModel: its gates. Written by program (wip/whole/gen/m560.py) but for the heads. -/
theorem ri {a b : Int32} (h : a = b) : (.inl (some (.int a)) : ab_R) = .inl (some (.int b)) := by rw [h]
/-- b ≤ a ≤ c -/
abbrev inr (a b c : Int32) : Prop := b ≤ a ∧ a ≤ c
