/-! ValveRoomModel: what would be. Written by program (wip/whole/gen/m575.py) but for the heads. -/
theorem rn_tick (g : Nat → Int32) : f_tick g 0 = g 0 := by
  unfold f_tick
  rw [(kp_goOns _ _).2 0 (by decide)]
  unfold f_due
  rw [drop_lo (by decide) (by decide), (kp_cars _ _).2 0 (by decide)]
  rfl
theorem rn_ticks0 (g : Nat → Int32) : ∀ N, ticksN g N 0 = g 0
  | 0 => rfl
  | N + 1 => (rn_tick _).trans (rn_ticks0 g N)
theorem rn_ticks (g : Nat → Int32) (N : Nat) : rn (ticksN g N) = rn g := congrArg (fun x : Int32 => x.toInt.toNat) (rn_ticks0 g N)
