/-! ValveRoomModel: nameOf, roomNamed, find. Written by program (wip/whole/gen/m603.py) but for the heads. -/
/-- a name as a number: its letters from p on, base 27 -/
def nmo (f : Nat → Int32) (p : Nat) : Nat → Int32
  | 0 => 0
  | k + 1 => 27 * nmo f p k + f (p + k) - 96
def rnm (g : Nat → Int32) (x : Int32) : Int32 := fst (fun r => 0 < x ∧ of g r 11 = x) (rn g) 0
noncomputable def c2i (P : Prop) : Int32 := @ite _ P (Classical.propDecidable _) 1 0
theorem c2i_1 {P : Prop} (h : P) : c2i P = 1 := by unfold c2i; exact @if_pos _ (Classical.propDecidable _) h _ _ _
theorem c2i_0 {P : Prop} (h : ¬ P) : c2i P = 0 := by unfold c2i; exact @if_neg _ (Classical.propDecidable _) h _ _ _
theorem c2i_t {P : Prop} (h : ¬ c2i P = 0) : P := Classical.byContradiction fun z => h (c2i_0 z)
theorem c2i_f {P : Prop} (h : c2i P = 0) : ¬ P := fun z => by rw [c2i_1 z] at h; exact absurd h (by decide)
