/-! ValveRoomModel: a plan more; slots, undo. Written by program (wip/whole/gen/m592.py) but for the heads. -/
/-- where a plan of this time comes to stand among the first k -/
def ipos (g : Nat → Int32) (t : Int32) : Nat → Nat
  | 0 => 0
  | k + 1 => if t < g (11 + 3 * k) then ipos g t k else k + 1
theorem ipos_le (g : Nat → Int32) (t : Int32) : ∀ k, ipos g t k ≤ k
  | 0 => Nat.le_refl _
  | k + 1 => by
    have := ipos_le g t k
    show (if t < g (11 + 3 * k) then ipos g t k else k + 1) ≤ k + 1
    split <;> omega
def f_ins (K : Nat) (t r kk : Int32) (g : Nat → Int32) : Nat → Int32 := fun j => if j = 3 then g 3 + 1 else if j = 11 + 3 * K + 2 then kk else if j = 11 + 3 * K + 1 then r else if j = 11 + 3 * K + 0 then t else if 11 + 3 * K + 3 ≤ j ∧ j < 11 + 3 * pn g + 3 then g (j - 3) else g j
def f_plan (t r kk : Int32) (g : Nat → Int32) : Nat → Int32 := f_ins (ipos g t (pn g)) t r kk g
theorem nI_s1 (k : Nat) : nI (k + 1) - 1 = nI k := nI_sub (a := k + 1) (b := 1) (by omega)
