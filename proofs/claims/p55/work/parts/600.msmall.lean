/-! ValveRoomModel: meanTemp, warmth, append, truncate, outputByte. Written by program (wip/whole/gen/m600.py) but for the heads. -/
theorem rfv {a b : UInt32} (h : a = b) : (.inl (some (.float a)) : ab_R) = .inl (some (.float b)) := by rw [h]
def wmth (g : Nat → Int32) (i : Nat) : UInt32 := if g 1 = 0 then FP.fconst0 else FP.fdiv (FP.i2f (of g i 10)) (FP.i2f (100 * g 1))
def byt (v x : Int32) : Int32 := vp_nar .byte ((v >>> (x &&& 31)).toInt8.toInt32)
