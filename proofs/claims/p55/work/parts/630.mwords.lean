/-! ValveRoomModel: isWord, isKeyword, isSign, errsIf. Written by program (wip/whole/gen/m630.py) but for the heads. -/
def kx (b : Nat → Int32) (N : Nat) (x : PR PST) : Bool := match x with
  | .inl _ => false
  | .inr s => kwB b N s.1
theorem GD.tok {b : Nat → Int32} {N : Nat} {S0 S : SS} {s : PST} (h : GD b N S0 S s) : S.1 267 10 = nI (tk b N s.1) := h.2.2.2.1
theorem GD.st {b : Nat → Int32} {N : Nat} {S0 S : SS} {s : PST} (h : GD b N S0 S s) : S.1 267 9 = nI s.1 := h.2.1
theorem GD.nx {b : Nat → Int32} {N : Nat} {S0 S : SS} {s : PST} (h : GD b N S0 S s) : S.1 267 8 = nI (te b N s.1) := h.1.2.1.1
theorem GD.val {b : Nat → Int32} {N : Nat} {S0 S : SS} {s : PST} (h : GD b N S0 S s) (ht : tk b N s.1 = 3) : S.1 267 11 = b s.1 &&& 255 := h.2.2.2.2.2 ht
theorem GD.num {b : Nat → Int32} {N : Nat} {S0 S : SS} {s : PST} (h : GD b N S0 S s) (ht : tk b N s.1 = 2) : S.1 267 11 = nI (vl b N s.1) := h.2.2.2.2.1 ht
theorem isS_iff {b : Nat → Int32} {N p : Nat} {c : Int32} : isS b N c p = true ↔ tk b N p = 3 ∧ b p = c := by
  unfold isS
  rw [Bool.and_eq_true, decide_eq_true_iff, decide_eq_true_iff]
