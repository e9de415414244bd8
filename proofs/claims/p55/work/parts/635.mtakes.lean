/-! ValveRoomModel: numbers, words, names that are taken. Written by program (wip/whole/gen/m635.py) but for the heads. -/
/-- an int and the state behind it; L: what the int is when an error is told -/
def HV {α : Type} (b : Nat → Int32) (N : Nat) (S0 S : SS) (L : Int32 → Prop) (V : α → Int32) (y : PR (α × PST)) (v : Int32) : Prop := match y with
  | .inl e => L v ∧ BD b N S0 S e
  | .inr q => v = V q.1 ∧ GD b N S0 S q.2
def dY {α : Type} (y : PR (α × PST)) : PR PST := pb y (fun q => .inr q.2)
/-- the value kept, the state one step further -/
def mvY {α : Type} (y : PR (α × PST)) (F : PST → PR PST) : PR (α × PST) := pb y (fun q => pb (F q.2) (fun s => .inr (q.1, s)))
theorem HV.go {α : Type} {b : Nat → Int32} {N : Nat} {S0 S S' : SS} {L : Int32 → Prop} {V : α → Int32} {y : PR (α × PST)} {v : Int32} (h : HV b N S0 S L V y v) {F : PST → PR PST} (hL : ∀ q, y = .inr q → (∃ s, F q.2 = .inr s) ∨ L v) (h' : HS b N S0 S' (pb (dY y) F)) : HV b N S0 S' L V (mvY y F) v := by
  cases y with
  | inl e => exact ⟨h.1, h'⟩
  | inr q =>
    have h2 : HS b N S0 S' (F q.2) := h'
    show HV b N S0 S' L V (pb (F q.2) (fun s => .inr (q.1, s))) v
    cases hF : F q.2 with
    | inl e =>
      rw [hF] at h2
      rcases hL q rfl with ⟨s, hs⟩ | hl
      · rw [hF] at hs; cases hs
      · exact ⟨hl, h2⟩
    | inr s =>
      rw [hF] at h2
      exact ⟨h.1, h2⟩
theorem isNm_iff {b : Nat → Int32} {N p : Nat} : isNm b N p = true ↔ tk b N p = 1 ∧ te b N p - p ≤ 6 ∧ ¬ kwB b N p = true := by
  unfold isNm
  rw [Bool.and_eq_true, Bool.and_eq_true, decide_eq_true_iff, decide_eq_true_iff, Bool.not_eq_true']
  constructor
  · rintro ⟨⟨h1, h2⟩, h3⟩
    exact ⟨h1, h2, by rw [h3]; decide⟩
  · rintro ⟨h1, h2, h3⟩
    exact ⟨⟨h1, h2⟩, by cases hk : kwB b N p with
      | true => exact absurd hk h3
      | false => rfl⟩
