/-! ValveRoomModel: a new room. Written by program (wip/whole/gen/m645.py) but for the heads. -/
/-- what was taken, and that the ints are its -/
def HW {α : Type} (b : Nat → Int32) (N : Nat) (S0 S : SS) (P : α → Prop) (y : PR (α × PST)) : Prop := match y with
  | .inl e => BD b N S0 S e
  | .inr q => P q.1 ∧ GD b N S0 S q.2
theorem HV.w {α : Type} {b : Nat → Int32} {N : Nat} {S0 S : SS} {L : Int32 → Prop} {V : α → Int32} {y : PR (α × PST)} {v : Int32} (h : HV b N S0 S L V y v) : HW b N S0 S (fun a => v = V a) y := by
  cases y with
  | inl e => exact h.2
  | inr q => exact h
theorem HW.go {α : Type} {b : Nat → Int32} {N : Nat} {S0 S S' : SS} {P : α → Prop} {y : PR (α × PST)} (h : HW b N S0 S P y) {F : PST → PR PST} (h' : HS b N S0 S' (pb (dY y) F)) : HW b N S0 S' P (mvY y F) := by
  cases y with
  | inl e => exact h'
  | inr q =>
    have h2 : HS b N S0 S' (F q.2) := h'
    show HW b N S0 S' P (pb (F q.2) (fun s => .inr (q.1, s)))
    cases hF : F q.2 with
    | inl e => rw [hF] at h2; exact h2
    | inr s => rw [hF] at h2; exact ⟨h.1, h2⟩
