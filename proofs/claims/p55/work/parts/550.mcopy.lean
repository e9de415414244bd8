/-! ValveRoomModel: copies of its row. Written by program (wip/whole/gen/m550.py) but for the heads. -/
theorem wa_cg {Xx : ab_X} {own : String} {cc : ByteArray} {nL : Nat} {hh : List (Nat × Nat × Nat × Nat)} {R : Room} {Q : ab_Q} {k z pc : Nat} {ls : List (Option Value)} {st : List Value} {n : Nat} {S1 S2 : SS} (e : S1 = S2) (h : WX Xx own cc nL hh R Q k z pc ls st n (Hp S1)) : WX Xx own cc nL hh R Q k z pc ls st n (Hp S2) := e ▸ h
/-- a row with its first m numbers those of another -/
def cp (a b : Nat → Int32) (m : Nat) : Nat → Int32 := fun j => if j < m then b j else a j
theorem ix_nI {k : Nat} (h : k < 2 ^ 31) : (nI k).toInt = (k : Int) := nI_toInt h
