/-! ValveRoomModel: layPlain, load. Written by program (wip/whole/gen/m660.py) but for the heads. -/
section SFP
variable {own : String} {cc : ByteArray} {nL : Nat} {hh : List (Nat × Nat × Nat × Nat)} {R : Room} {Q : ab_Q} {k z pc : Nat} {ls : List (Option Value)} {st : List Value} {n : Nat} {S : SS}
end SFP
def MON (F : PST → PR PST) : Prop := ∀ s s', F s = .inr s' → s.1 ≤ s'.1
theorem pb_inv {α β : Type} {x : PR α} {f : α → PR β} {q : β} (h : pb x f = .inr q) : ∃ a, x = .inr a ∧ f a = .inr q := by
  cases x with
  | inl e => cases h
  | inr a => exact ⟨a, rfl, h⟩
section PG
variable {b : Nat → Int32} {N : Nat}
theorem end_gt {s s' : PST} (h : pEnd b N s = .inr s') : s.1 < s'.1 := by
  obtain ⟨q, h1, h2⟩ := pb_inv h
  cases h2
  exact pSym_gt h1
theorem MON.end {F : PST → PR PST} (hF : MON F) {s s' : PST} (h : pb (F s) (pEnd b N) = .inr s') : s.1 < s'.1 := by
  obtain ⟨a, h1, h2⟩ := pb_inv h
  exact Nat.lt_of_le_of_lt (hF s a h1) (end_gt h2)
end PG
